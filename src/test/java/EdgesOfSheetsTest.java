import java.util.ArrayList;
import java.util.List;

/** Promises 26 to 36 and Terms 6 SHEETS: each sentence that names a boundary, at both ends. */
public final class EdgesOfSheetsTest {
    private static final String FLAT = "text g22;00;00 = 4";
    /** A row of bytes, of shorts, of no ints, nothing; and BELLS of each kind. */
    private static final String[] LIVELY = {FLAT, "bell 0 3 7 = 0", "bell 1 2 8 = 1", "bell 2 1 9 = 2", "row 0 0 : 1 2 3",
        "row 1 1 : 4 5", "row 2 2 :", "put 1 2 0 ! INDEX"};

    public static void main(String[] args) {
        sheets();
        sheetRefused();
        losing();
        putting();
        cutting();
        cells();
        copying();
        copyRefused();
        telling();
        blessing();
        kinds();
        trace();
        faults();
        faultsOfCallsThatNameNone();
        howMany();
        allCallsOfAnObject();
        Due.end();
    }

    // ---- SHEETS

    private static void sheets() {
        for (int sort = 0; sort <= 2; sort++) {
            List<String> lines = new ArrayList<>(List.of("sheet 3 " + sort + " 60 = 1"));
            for (int i = 0; i < 60; i++) {
                lines.add("cell 3 " + i + " " + sort + " = 0");
                lines.add("put 3 " + i + " " + (i + 1) + " = 1");
            }
            lines.addAll(List.of("cell 3 60 " + sort + " ! LOST 3", "cell 3 59 " + sort + " = 60", "sheet 3 " + sort + " 60 = 1",
                    "cell 3 0 " + sort + " = 0", "cell 3 59 " + sort + " = 0"));
            Run.run("a row of 60 numbers (0 at first) of SORT " + sort, lines);
            Run.run("a row of 0, 1 numbers of SORT " + sort, "sheet 0 " + sort + " 0 = 1", "cell 0 0 " + sort + " ! LOST 3",
                    "put 0 0 1 ! INDEX", "sheet 0 " + sort + " 1 = 1", "cell 0 0 " + sort + " = 0", "cell 0 1 " + sort + " ! LOST 3",
                    "put 0 0 9 = 1", "cell 0 0 " + sort + " = 9", "sheet 0 " + sort + " 0 = 1", "cell 0 0 " + sort + " ! LOST 3",
                    "sheet 0 " + sort + " 2 = 1", "cell 0 0 " + sort + " = 0");
        }
        Run.run("A SHEET gets a new row, the others stay", Run.on(LIVELY, "sheet 0 2 2 = 1", "cell 0 0 0 ! LOST 2", "cell 0 0 2 = 0",
                "cell 0 1 2 = 0", "cell 0 2 2 ! LOST 3", "cell 1 0 1 = 4", "cell 1 1 1 = 5", "sheet 3 0 1 = 1", "cell 3 0 0 = 0"));
        Run.run("LAND and BELLS stay, too", Run.on(LIVELY, "sheet 0 0 9 = 1", "many 0 = 4", "many 3 = 3", "lose 0 = 1", "many 0 = 4",
                "many 3 = 3", "ofBell 2 2 = 9"));
    }

    private static void sheetRefused() {
        Run.run("sheet: UNKNOWN: SHEETS 0 .. 3, ahead of OUTSIDE and SIZE", Run.on(LIVELY, "sheet -1 3 -1 ! UNKNOWN", "sheet 4 0 61 ! UNKNOWN",
                "sheet 4 0 1 ! UNKNOWN", "sheet MAX 0 1 ! UNKNOWN", "sheet MIN 0 1 ! UNKNOWN", "sheet 3 0 1 = 1"));
        Run.run("sheet: OUTSIDE: sort, n above 60, ahead of SIZE", Run.on(LIVELY, "sheet 0 -1 -1 ! OUTSIDE", "sheet 0 3 -1 ! OUTSIDE",
                "sheet 0 -1 1 ! OUTSIDE", "sheet 0 3 61 ! OUTSIDE", "sheet 0 MAX 1 ! OUTSIDE", "sheet 0 MIN 1 ! OUTSIDE",
                "sheet 0 0 61 ! OUTSIDE", "sheet 3 2 61 ! OUTSIDE", "sheet 0 0 MAX ! OUTSIDE"));
        Run.run("sheet: SIZE: a length below 0", Run.on(LIVELY, "sheet 0 0 -1 ! SIZE", "sheet 1 1 -1 ! SIZE", "sheet 3 2 -1 ! SIZE",
                "sheet 0 2 MIN ! SIZE", "cell 0 2 0 = 3"));
    }

    private static void losing() {
        Run.run("A SHEET has nothing: 1; 0: it had nothing", Run.on(LIVELY, "lose 3 ! 0", "lose 0 = 1", "lose 0 ! 0", "lose 1 = 1",
                "lose 2 = 1", "lose 2 = 0", "cell 0 0 0 ! LOST 1", "cell 2 0 2 ! LOST 1", "sheet 0 0 0 = 1", "lose 0 = 1", "sheet 1 1 2 = 1",
                "cell 1 0 1 = 0"));
        Run.run("lose: UNKNOWN", Run.on(LIVELY, "lose -1 ! UNKNOWN", "lose 4 ! UNKNOWN", "lose MAX ! UNKNOWN", "lose MIN ! UNKNOWN"));
        Run.run("what has nothing is of no SORT", "sheet 0 1 5 = 1", "lose 0 = 1", "cell 0 0 0 ! LOST 1", "cell 0 0 1 ! LOST 1",
                "cell 0 0 2 ! LOST 1", "land 0 0 0 0 ! NULL", "land 0 2 9 -1 ! NULL");
    }

    private static void putting() {
        Run.run("put: UNKNOWN, ahead of NULL and INDEX", Run.on(LIVELY, "put -1 -1 0 ! UNKNOWN", "put 4 0 0 ! UNKNOWN", "put MAX 0 0 ! UNKNOWN",
                "put MIN 0 0 ! UNKNOWN"));
        Run.run("put: NULL: there is nothing, ahead of INDEX", Run.on(LIVELY, "put 3 0 0 ! NULL", "put 3 -1 0 ! NULL", "put 3 60 0 ! NULL"));
        Run.run("put: INDEX", Run.on(LIVELY, "put 0 -1 9 ! INDEX", "put 0 3 9 ! INDEX", "put 0 59 9 ! INDEX", "put 0 60 9 ! INDEX",
                "put 0 MAX 9 ! INDEX", "put 0 MIN 9 ! INDEX", "put 2 0 9 ! INDEX", "put 1 2 9 ! INDEX", "put 0 0 8 = 1", "put 0 2 9 = 1",
                "cell 0 0 0 = 8", "cell 0 1 0 = 2", "cell 0 2 0 = 9"));
        Run.run("put: of the longest row the first and the last", "sheet 3 2 60 = 1", "put 3 0 5 = 1", "put 3 59 6 = 1", "put 3 60 7 ! INDEX",
                "cell 3 0 2 = 5", "cell 3 59 2 = 6");
    }

    private static void cut(int sort, String number, long kept) {
        Run.run("cut to its SORT (with its sign): " + number, "sheet 0 " + sort + " 3 = 1", "put 0 1 " + number + " = 1",
                "cell 0 1 " + sort + " = " + kept, "cell 0 0 " + sort + " = 0", "cell 0 2 " + sort + " = 0");
    }

    private static void cutting() {
        cut(0, "127", 127);
        cut(0, "128", -128);
        cut(0, "-128", -128);
        cut(0, "-129", 127);
        cut(0, "255", -1);
        cut(0, "256", 0);
        cut(0, "-256", 0);
        cut(0, "-257", -1);
        cut(0, "MAX", -1);
        cut(0, "MIN", 0);
        cut(1, "127", 127);
        cut(1, "128", 128);
        cut(1, "32767", 32767);
        cut(1, "32768", -32768);
        cut(1, "-32768", -32768);
        cut(1, "-32769", 32767);
        cut(1, "65535", -1);
        cut(1, "65536", 0);
        cut(1, "MAX", -1);
        cut(1, "MIN", 0);
        cut(2, "32768", 32768);
        cut(2, "65536", 65536);
        cut(2, "MAX", Integer.MAX_VALUE);
        cut(2, "MIN", Integer.MIN_VALUE);
        cut(2, "-1", -1);
    }

    private static void cells() {
        Run.run("cell: LOST: UNKNOWN, ahead of all", Run.on(LIVELY, "cell -1 -1 3 ! LOST", "cell 4 0 0 ! LOST", "cell MAX 0 0 ! LOST",
                "cell MIN 0 0 ! LOST"));
        Run.run("cell: OUTSIDE: sort, ahead of the FAULTS", Run.on(LIVELY, "cell 0 9 3 ! LOST", "cell 0 0 -1 ! LOST", "cell 3 0 3 ! LOST",
                "cell 0 0 MAX ! LOST", "cell 0 0 MIN ! LOST"));
        Run.run("cell: CAST, ahead of INDEX", Run.on(LIVELY, "cell 0 0 1 ! LOST 2", "cell 0 3 2 ! LOST 2", "cell 1 0 0 ! LOST 2",
                "cell 1 -1 2 ! LOST 2", "cell 2 0 0 ! LOST 2", "cell 2 0 1 ! LOST 2"));
        Run.run("cell: nothing is no CAST: NULL, ahead of INDEX", Run.on(LIVELY, "cell 3 0 0 ! LOST 1", "cell 3 -1 1 ! LOST 1",
                "cell 3 60 2 ! LOST 1"));
        Run.run("cell: INDEX", Run.on(LIVELY, "cell 0 -1 0 ! LOST 3", "cell 0 3 0 ! LOST 3", "cell 1 2 1 ! LOST 3", "cell 2 0 2 ! LOST 3",
                "cell 0 MAX 0 ! LOST 3", "cell 0 MIN 0 ! LOST 3", "cell 0 0 0 ! 1", "cell 0 2 0 = 3", "cell 1 1 1 = 5"));
    }

    // ---- copy

    private static String[] then(String call, int k, int... numbers) {
        String[] lines = new String[numbers.length + 1];
        lines[0] = call;
        for (int i = 0; i < numbers.length; i++) {
            lines[i + 1] = "cell " + k + " " + i + " 0 = " + numbers[i];
        }
        return lines;
    }

    private static void copying() {
        String[] two = {"row 0 0 : 1 2 3 4 5", "row 1 0 : 6 7 8"};
        Run.run("go to another one", Run.on(two, then("copy 0 3 1 1 2 = 2", 1, 6, 4, 5)));
        Run.run("from the first on to the first on, all that has room", Run.on(two, then("copy 0 0 1 0 3 = 3", 1, 1, 2, 3)));
        Run.run("the last to the last", Run.on(two, then("copy 0 4 1 2 1 = 1", 1, 6, 7, 5)));
        Run.run("the row itself stays", Run.on(two, then("copy 0 0 1 0 3 = 3", 0, 1, 2, 3, 4, 5)));
        Run.run("perhaps the same, as they were: upwards", Run.on(two, then("copy 0 0 0 1 4 = 4", 0, 1, 1, 2, 3, 4)));
        Run.run("perhaps the same, as they were: downwards", Run.on(two, then("copy 0 1 0 0 4 = 4", 0, 2, 3, 4, 5, 5)));
        Run.run("perhaps the same: all of it to itself", Run.on(two, then("copy 0 0 0 0 5 ! 5", 0, 1, 2, 3, 4, 5)));
        Run.run("none of them", Run.on(two, "copy 0 0 1 0 0 ! 0", "copy 0 5 1 3 0 ! 0", "copy 1 3 0 5 0 ! 0", "copy 0 5 0 0 0 ! 0",
                "row 2 0 :", "copy 2 0 0 5 0 ! 0", "copy 0 5 2 0 0 ! 0", "copy 2 0 2 0 0 ! 0"));
        Run.run("all sixty, of each SORT", "sheet 0 1 60 = 1", "put 0 0 -300 = 1", "put 0 59 300 = 1", "sheet 1 1 60 = 1",
                "copy 0 0 1 0 60 = 60", "cell 1 0 1 = -300", "cell 1 59 1 = 300", "sheet 2 2 2 = 1", "put 2 0 MIN = 1", "put 2 1 MAX = 1",
                "sheet 3 2 2 = 1", "copy 2 0 3 0 2 = 2", "cell 3 0 2 = " + Integer.MIN_VALUE, "cell 3 1 2 = " + Integer.MAX_VALUE);
    }

    private static void copyRefused() {
        Run.run("copy: UNKNOWN: either SHEET, ahead of the FAULTS", Run.on(LIVELY, "copy -1 0 0 0 0 ! UNKNOWN", "copy 4 0 3 0 -1 ! UNKNOWN",
                "copy 3 0 4 0 -1 ! UNKNOWN", "copy 0 0 -1 0 0 ! UNKNOWN", "copy 0 -1 4 0 0 ! UNKNOWN", "copy MAX 0 0 0 0 ! UNKNOWN",
                "copy 0 0 MIN 0 0 ! UNKNOWN"));
        Run.run("copy: NULL (the first, the other), ahead of CAST and INDEX", Run.on(LIVELY, "copy 3 0 0 0 0 ! NULL", "copy 3 -1 1 -1 -1 ! NULL",
                "copy 0 0 3 0 0 ! NULL", "copy 1 -1 3 0 -1 ! NULL", "copy 3 0 3 0 0 ! NULL"));
        Run.run("copy: CAST (unlike SORTS), ahead of INDEX, none of them taken", Run.on(LIVELY, "copy 0 0 1 0 0 ! CAST", "copy 1 0 0 0 1 ! CAST",
                "copy 0 -1 2 0 -1 ! CAST", "copy 2 0 1 0 9 ! CAST"));
        Run.run("copy: INDEX: i, j, n below 0", Run.on(LIVELY, "row 3 0 : 6 7", "copy 0 -1 3 0 1 ! INDEX", "copy 0 0 3 -1 1 ! INDEX",
                "copy 0 0 3 0 -1 ! INDEX", "copy 0 -1 3 0 0 ! INDEX", "copy 0 0 3 -1 0 ! INDEX", "copy 0 MIN 3 0 1 ! INDEX",
                "copy 0 0 3 MIN 1 ! INDEX", "copy 0 0 3 0 MIN ! INDEX"));
        Run.run("copy: INDEX: or beyond", Run.on(LIVELY, "row 3 0 : 6 7", "copy 0 2 3 0 2 ! INDEX", "copy 0 3 3 0 1 ! INDEX", "copy 0 4 3 0 0 ! INDEX",
                "copy 0 0 3 1 2 ! INDEX", "copy 0 0 3 2 1 ! INDEX", "copy 0 0 3 3 0 ! INDEX", "copy 0 0 3 0 3 ! INDEX", "copy 3 0 0 0 3 ! INDEX",
                "copy 0 1 0 0 3 ! INDEX", "copy 0 0 0 1 3 ! INDEX", "copy 0 1 3 0 MAX ! INDEX", "copy 0 0 3 1 MAX ! INDEX",
                "copy 0 MAX 3 0 1 ! INDEX", "copy 0 0 3 MAX 1 ! INDEX", "copy 0 MAX 3 MAX MAX ! INDEX", "copy 0 1 3 0 2 = 2"));
    }

    // ---- bodies

    private static void telling() {
        Run.run("BELL (1): WEIGHT", Run.on(LIVELY, "tell 0 = 7", "trace = 1", "recast 0 1 = 7", "tell 0 = 1", "trace = 32", "recast 0 99 = 1",
                "tell 0 = 99"));
        Run.run("TENOR (2): what BELL's gives, and 100", Run.on(LIVELY, "tell 1 = 108", "trace = 63", "recast 1 99 = 8", "tell 1 = 199",
                "recast 1 1 = 99", "tell 1 = 101"));
        Run.run("GREAT (3): what TENOR's gives, and what BELL's gives (TENOR's left out)", Run.on(LIVELY, "tell 2 = 118", "trace = 91327",
                "recast 2 99 = 9", "tell 2 = 298", "recast 2 1 = 99", "tell 2 = 102"));
        Run.run("tell: UNKNOWN", Run.on(LIVELY, "tell 0 = 7", "tell -1 ! UNKNOWN", "tell 3 ! UNKNOWN", "tell MAX ! UNKNOWN", "tell MIN ! UNKNOWN",
                "trace = 1"));
    }

    private static void blessing() {
        Run.run("a lent body (4): the own number, its place in its list", Run.on(LIVELY, "bless 0 = 0", "trace = 4", "bless 1 = 1",
                "trace = 128", "bell 0 0 1 = 3", "bell 1 0 1 = 4", "bell 1 0 1 = 5", "bless 5 = 5", "bless 3 = 3", "recast 3 50 = 1", "bless 3 = 3"));
        Run.run("GREAT ones have their own (5): 60", Run.on(LIVELY, "bless 2 = 60", "trace = 5", "bell 2 0 1 = 3", "bless 3 = 60", "trace = 160"));
        Run.run("bless: UNKNOWN", Run.on(LIVELY, "bless 2 = 60", "bless -1 ! UNKNOWN", "bless 3 ! UNKNOWN", "bless MAX ! UNKNOWN",
                "bless MIN ! UNKNOWN", "trace = 5"));
    }

    private static void kinds() {
        Run.run("as: each is a BELL, too", Run.on(LIVELY, "as 0 0 ! 1", "as 1 0 ! 1", "as 2 0 ! 1"));
        Run.run("as: a GREAT one is a TENOR", Run.on(LIVELY, "as 2 1 ! 1", "as 2 2 ! 1", "as 1 1 ! 1"));
        Run.run("as: CAST: it is none", Run.on(LIVELY, "as 0 1 ! CAST", "as 0 2 ! CAST", "as 1 2 ! CAST"));
        Run.run("as: UNKNOWN, ahead of OUTSIDE", Run.on(LIVELY, "as -1 3 ! UNKNOWN", "as 3 -1 ! UNKNOWN", "as 3 0 ! UNKNOWN", "as MAX 0 ! UNKNOWN",
                "as MIN 0 ! UNKNOWN"));
        Run.run("as: OUTSIDE, ahead of CAST", Run.on(LIVELY, "as 0 3 ! OUTSIDE", "as 2 -1 ! OUTSIDE", "as 2 3 ! OUTSIDE", "as 0 MAX ! OUTSIDE",
                "as 0 MIN ! OUTSIDE"));
        Run.run("no body begins for that", Run.on(LIVELY, "as 2 0 = 1", "as 0 2 ! CAST", "trace = 0"));
    }

    private static void trace() {
        Run.run("an int that wraps, 0 at first", Run.on(LIVELY, "trace = 0", "bless 0 = 0", "bless 0 = 0", "bless 0 = 0", "bless 0 = 0",
                "bless 0 = 0", "bless 0 = 0", "trace = 118333824", "bless 0 = 0", "trace ! -626618748", "bless 0 = 0", "trace = 2049655296",
                "tell 0 = 7", "trace = -885195263", "lose 0 = 1", "trace = -885195263"));
    }

    // ---- FAULTS

    private static void faults() {
        Run.run("0 ahead of any", "fault = 0", "many 0 = 0", "fault = 0");
        String[] after = {"put 3 0 0 ! NULL", "fault ! 1", "fault = 1"};
        Run.run("0: it came to none", Run.on(LIVELY, "put 3 0 0 ! NULL", "put 0 0 1 = 1", "fault = 0", "put 3 0 0 ! NULL", "sheet 0 0 9 = 1",
                "put 3 0 0 ! NULL", "cell 0 0 0 = 0", "put 3 0 0 ! NULL", "copy 0 0 0 0 1 = 1", "put 3 0 0 ! NULL", "as 0 0 = 1",
                "put 3 0 0 ! NULL", "tithes 0 0 0 0 1 1 = 1", "put 3 0 0 ! NULL", "land 0 0 0 9 ! -100", "put 3 0 0 ! NULL",
                "row 0 0 : 103 50 50 59 48 48 59 48 48", "put 3 0 0 ! NULL", "land 0 0 0 9 = 4", "fault = 0"));
        Run.run("or was refused: UNKNOWN", Run.on(LIVELY, Run.on(after, "put 4 0 0 ! UNKNOWN", "put 3 0 0 ! NULL", "sheet 4 0 0 ! UNKNOWN",
                "put 3 0 0 ! NULL", "cell 4 0 0 ! LOST", "put 3 0 0 ! NULL", "copy 4 0 0 0 0 ! UNKNOWN", "put 3 0 0 ! NULL", "copy 0 0 4 0 0 ! UNKNOWN",
                "put 3 0 0 ! NULL", "as 3 0 ! UNKNOWN", "put 3 0 0 ! NULL", "tithes 3 0 0 0 0 0 ! LOST", "put 3 0 0 ! NULL",
                "tithes 0 4 0 0 0 0 ! LOST", "put 3 0 0 ! NULL", "land 4 0 0 0 ! UNKNOWN")));
        Run.run("or was refused: OUTSIDE", Run.on(LIVELY, Run.on(after, "sheet 0 3 0 ! OUTSIDE", "put 3 0 0 ! NULL", "sheet 0 0 61 ! OUTSIDE",
                "put 3 0 0 ! NULL", "cell 0 0 3 ! LOST", "put 3 0 0 ! NULL", "as 0 3 ! OUTSIDE", "put 3 0 0 ! NULL", "tithes 0 0 3 0 0 0 ! LOST",
                "put 3 0 0 ! NULL", "tithes 0 0 0 0 0 2 ! LOST", "put 3 0 0 ! NULL", "put 0 0 40 = 1", "put 3 0 0 ! NULL",
                "tithes 0 0 0 0 1 0 ! LOST", "put 3 0 0 ! NULL", "land 0 3 0 0 ! OUTSIDE")));
        Run.run("of the latest one", Run.on(LIVELY, "put 3 0 0 ! NULL", "fault = 1", "as 0 2 ! CAST", "fault = 2", "put 0 9 0 ! INDEX", "fault = 3",
                "sheet 0 0 -1 ! SIZE", "fault = 4", "put 3 0 0 ! NULL", "fault = 1"));
    }

    private static void faultsOfCallsThatNameNone() {
        Run.run("a call that names no FAULT leaves it, refused or not", Run.on(LIVELY, "sheet 0 0 -1 ! SIZE", "ofCell 0 0 = 0", "ofCell 4 0 ! UNKNOWN",
                "plant 0 true = 1", "plant 4 true ! UNKNOWN", "ear 9 = 10", "ear 100 ! OUTSIDE", "bell 0 0 1 = 3", "bell 0 4 1 ! UNKNOWN",
                "ofBell 0 0 = 0", "ofBell 9 0 ! UNKNOWN", "recast 0 8 = 7", "recast 0 0 ! OUTSIDE", "loud 0 3 0 = 8/1", "loud 9 0 0 0 ! LOST",
                "whose 3 0 = 0", "whose 4 0 ! UNKNOWN", "reach 9 0 ! UNKNOWN", "reach 3 0 = 0", "wins 9 0 0 ! UNKNOWN", "wins 0 4 0 ! UNKNOWN",
                "cheapest 4 0 0 ! UNKNOWN", "hang 0 1 0 2 ! OUTSIDE", "hang 0 1 0 1 = 0", "together 0 0 0 ! UNKNOWN", "pacts 0 -2 ! UNKNOWN",
                "pacts 0 -1 = 1", "report 3 0 0 1 = 0", "report 0 0 0 0 ! UNKNOWN", "untrue = 0", "leaves 9 0 ! UNKNOWN", "leaves 3 0 = 99",
                "back 1 = 0", "back 1 ! OUTSIDE", "keep 9 0 0 0 ! UNKNOWN", "keep 0 3 0 -1 = 0", "turns 0 9 ! UNKNOWN", "turns 0 0 = 0",
                "settles 0 2 ! OUTSIDE", "after 0 0 201 ! OUTSIDE", "after 0 0 0 = 8", "lose 3 = 0", "lose 4 ! UNKNOWN", "lose 1 = 1", "tell 0 = 8",
                "tell 9 ! UNKNOWN", "bless 0 = 0", "bless 9 ! UNKNOWN", "trace = 35", "many 7 ! OUTSIDE", "many 3 = 4", "fault = 4"));
    }

    // ---- many

    private static void howMany() {
        Run.run("OUTSIDE: what is 0 .. 6", Run.on(LIVELY, "many -1 ! OUTSIDE", "many 7 ! OUTSIDE", "many MAX ! OUTSIDE", "many MIN ! OUTSIDE",
                "many 0 ! 4", "many 6 ! 10"));
        Run.run("without LAND", "many -1 ! OUTSIDE", "many 7 ! OUTSIDE", "many 0 = 0", "many 6 = 0");
        Run.run("CELLS, HIGH, WIDE, BELLS, PLANTED CELLS, REPORTS, EAR", "text g45;00000;00000;00000;00000 = 20", "bell 0 0 1 = 0", "bell 0 0 1 = 1",
                "plant 0 true = 1", "plant 7 true = 1", "plant 19 true = 1", "report 0 0 0 1 = 0", "ear 55 = 10", "many 0 = 20", "many 1 = 4",
                "many 2 = 5", "many 3 = 2", "many 4 = 3", "many 5 = 1", "many 6 = 55");
    }

    /** The last of 512 calls is still answered as the first one. */
    private static void allCallsOfAnObject() {
        BellLand x = Due.landed("g22;00;00");
        Due.due("bell", x.bell(2, 0, 9), 0);
        int calls = 12;
        int trace = 0;
        while (calls < 511) {
            Due.due("bless, call " + calls, x.bless(0), 60);
            trace = 31 * trace + 5;
            calls++;
        }
        Due.due("trace, call 512", x.trace(), trace);
    }
}
