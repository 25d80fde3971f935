import java.util.ArrayList;
import java.util.List;

/** Promises 1 to 5 and Terms 1 LAND: each sentence that names a boundary, at both ends. */
public final class EdgesOfLandTest {
    /** An object with something of everything. */
    private static final String[] LIVELY = {
        "text g23;120;035 = 6", "bell 0 0 10 = 0", "bell 2 4 8 = 1", "ear 12 = 10", "plant 1 true = 1",
        "report 3 0 0 1 = 0", "report 5 15 1 0 = 1", "tell 1 = 116", "row 1 1 : 7 103 50 50 59 48 48 59 48 48",
        "row 2 2 :", "cell 1 10 1 ! LOST 3"};

    public static void main(String[] args) {
        newObject();
        textBegins();
        textHeights();
        textsOfEachSize();
        textEnds();
        textOfASheet();
        landRefused();
        takenMakesAnew();
        smallBehindWide();
        cells();
        planting();
        ears();
        Due.end();
    }

    // ---- Promise 1

    private static void newObject() {
        Run.run("No LAND (no CELLS)",
                "many 0 = 0", "many 1 = 0", "many 2 = 0", "many 3 = 0", "many 4 = 0", "many 5 = 0", "many 6 = 0",
                "ofCell 0 0 ! UNKNOWN", "plant 0 true ! UNKNOWN", "plant 0 false ! UNKNOWN", "ear 10 ! STATE",
                "bell 0 0 1 ! UNKNOWN", "ofBell 0 0 ! UNKNOWN", "recast 0 1 ! UNKNOWN", "loud 0 0 0 0 ! LOST",
                "whose 0 0 ! UNKNOWN", "reach 0 0 ! UNKNOWN", "wins 0 0 0 ! UNKNOWN", "cheapest 0 0 0 ! UNKNOWN",
                "hang 0 1 0 0 ! STATE", "together 0 1 0 ! UNKNOWN", "pacts 0 -1 = 0", "pacts 0 0 = NONE",
                "report 0 0 0 1 ! UNKNOWN", "back 0 = 0", "back 1 ! OUTSIDE", "untrue = 0", "leaves 0 0 ! UNKNOWN",
                "keep 0 0 0 -1 ! UNKNOWN", "turns 0 -1 = 0", "turns 0 0 ! UNKNOWN", "settles 0 0 ! STATE",
                "after 0 0 0 ! UNKNOWN", "tell 0 ! UNKNOWN", "bless 0 ! UNKNOWN", "as 0 0 ! UNKNOWN", "trace = 0");
        for (int k = 0; k <= 3; k++) {
            Run.run("SHEETS have nothing: " + k, "fault = 0", "lose " + k + " = 0", "cell " + k + " 0 0 ! LOST 1",
                    "cell " + k + " 0 1 ! LOST 1", "cell " + k + " 0 2 ! LOST 1", "put " + k + " 0 1 ! NULL",
                    "land " + k + " 0 0 0 ! NULL", "copy " + k + " 0 " + k + " 0 0 ! NULL", "lose " + k + " = 0");
        }
    }

    // ---- LAND by a TEXT

    private static void textBegins() {
        for (int code : new int[] {102, 104, 71, 0, -1, -153, 359, Integer.MIN_VALUE, Integer.MAX_VALUE}) {
            Run.run("g is 103, not " + code, "row 0 2 : " + code + " 50 50 59 48 48 59 48 48", "land 0 2 0 9 ! -100");
        }
        String[] highs = {"/", "0", "1", "6", "7", "9", ":", ";", "g"};
        for (String high : highs) {
            Run.run("HIGH is a digit 2 .. 5, not " + high, "text g" + high + "2;00;00;00;00;00;00 ! -101");
        }
        String[] wides = {"/", "0", "1", "7", "8", "9", ":", ";", "g"};
        for (String wide : wides) {
            Run.run("WIDE is a digit 2 .. 6, not " + wide, "text g2" + wide + ";0000000;0000000 ! -102");
        }
        Run.run("A code that is a digit but for its upper bits is none", "row 0 2 : 103 306 50", "land 0 2 0 3 ! -101",
                "row 0 2 : 103 50 306", "land 0 2 0 3 ! -102", "row 0 2 : 103 50 50 315", "land 0 2 0 4 ! -103",
                "row 0 2 : 103 50 50 59 304", "land 0 2 0 5 ! -104");
    }

    private static void textHeights() {
        for (String sign : new String[] {":", "<", "0", "g"}) {
            Run.run("Ahead of each row there is ; and not " + sign, "text g22" + sign + "00;00 ! -103",
                    "text g22;00" + sign + "00 ! -106", "text g23;000" + sign + "000 ! -107",
                    "text g32;00;00" + sign + "00 ! -109");
        }
        for (String sign : new String[] {"/", ":", ";", "g"}) {
            Run.run("HEIGHTS are digits, not " + sign, "text g22;" + sign + "0;00 ! -104",
                    "text g22;0" + sign + ";00 ! -105", "text g22;00;" + sign + "0 ! -107",
                    "text g22;00;0" + sign + " ! -108");
        }
        Run.run("HEIGHTS are 0 .. 9, by rows from above, in a row from the left", "text g23;059;981 = 6",
                "ofCell 0 0 = 0", "ofCell 1 0 = 5", "ofCell 2 0 = 9", "ofCell 3 0 = 9", "ofCell 4 0 = 8", "ofCell 5 0 = 1");
        Run.run("WIDE is not HIGH: the second row begins behind the third CELL", "text g24;1234;5678 = 8",
                "many 1 = 2", "many 2 = 4", "ofCell 3 0 = 4", "ofCell 4 0 = 5", "ofCell 7 0 = 8", "ofCell 8 0 ! UNKNOWN");
    }

    private static String text(int high, int wide) {
        return "g" + high + wide + (";" + "902468".substring(0, wide)).repeat(high);
    }

    private static void textsOfEachSize() {
        for (int high = 2; high <= 5; high++) {
            for (int wide = 2; wide <= 6; wide++) {
                int cells = high * wide;
                String text = text(high, wide);
                Run.run("HIGH times ; and WIDE digits: " + high + " and " + wide, "text " + text + " = " + cells,
                        "many 0 = " + cells, "many 1 = " + high, "many 2 = " + wide, "many 6 = 10",
                        "ofCell 0 0 = 9", "ofCell " + (cells - 1) + " 0 = " + text.charAt(text.length() - 1),
                        "ofCell " + cells + " 0 ! UNKNOWN", "ofCell -1 0 ! UNKNOWN");
            }
        }
    }

    private static void textEnds() {
        for (String text : new String[] {text(2, 2), text(2, 6), text(3, 4), text(5, 2), text(5, 6)}) {
            int n = text.length();
            List<String> short1 = new ArrayList<>(List.of("text " + text + " = " + (text.charAt(1) - 48) * (text.charAt(2) - 48)));
            for (int k = 0; k < n; k++) {
                short1.add("land 0 0 0 " + k + " ! " + (-100 - k));
            }
            Run.run("how many codes there are, if it just ends too soon", short1);
            for (String more : new String[] {";", "0", "g", ";0", "00"}) {
                Run.run("with which no TEXT goes on: one code more", "text " + text + more + " ! " + (-100 - n));
            }
        }
        Run.run("nothing at all", "row 0 0 :", "land 0 0 0 0 ! -100");
        Run.run("the first fault counts, not that it ends too soon", "text g2 ! -102", "text gx ! -101", "text x ! -100");
    }

    private static void textOfASheet() {
        for (int sort = 0; sort <= 2; sort++) {
            Run.run("n cells of a SHEET from i on, taken as a row of SORT " + sort,
                    "row 3 " + sort + " : 9 9 103 50 51 59 49 50 51 59 52 53 54 9", "land 3 " + sort + " 2 11 = 6",
                    "ofCell 0 0 = 1", "ofCell 5 0 = 6", "land 3 " + sort + " 2 12 ! -111", "land 3 " + sort + " 2 10 ! -110",
                    "land 3 " + sort + " 1 11 ! -100", "land 3 " + sort + " 3 11 ! -100", "land 3 " + sort + " 14 0 ! -100",
                    "many 0 = 6");
        }
        Run.run("the place is told from where the TEXT begins", "row 0 0 : 0 0 0 103 50 49", "land 0 0 3 3 ! -102");
        List<String> longest = new ArrayList<>(List.of("sheet 1 2 60 = 1"));
        for (int k = 0; k < 38; k++) {
            longest.add("put 1 " + (22 + k) + " " + (int) text(5, 6).charAt(k) + " = 1");
        }
        longest.addAll(List.of("land 1 2 22 39 ! INDEX", "land 1 2 22 37 ! -137", "land 1 2 22 38 = 30", "ofCell 29 0 = 8"));
        Run.run("the longest TEXT at the end of the longest row", longest);
    }

    // ---- Promise 2

    private static void landRefused() {
        Run.run("UNKNOWN is told ahead of all", Run.on(LIVELY, "land -1 3 -1 -1 ! UNKNOWN", "land 4 -1 0 -1 ! UNKNOWN",
                "land MAX 0 0 0 ! UNKNOWN", "land MIN 0 0 0 ! UNKNOWN"));
        Run.run("OUTSIDE: sort is told ahead of the FAULTS", Run.on(LIVELY, "land 3 3 -1 -1 ! OUTSIDE",
                "land 1 -1 0 -1 ! OUTSIDE", "land 0 3 0 13 ! OUTSIDE", "land 0 MAX 0 0 ! OUTSIDE", "land 0 MIN 0 0 ! OUTSIDE"));
        Run.run("CAST: it is of another sort, ahead of SIZE and INDEX", Run.on(LIVELY, "land 0 1 0 -1 ! CAST",
                "land 0 2 -1 0 ! CAST", "land 1 0 0 9 ! CAST", "land 1 2 0 9 ! CAST", "land 2 0 0 0 ! CAST", "land 2 1 0 0 ! CAST"));
        Run.run("nothing is no CAST: NULL, ahead of SIZE and INDEX", Run.on(LIVELY, "land 3 0 0 -1 ! NULL",
                "land 3 1 -1 0 ! NULL", "land 3 2 0 0 ! NULL"));
        Run.run("SIZE: n is below 0, ahead of INDEX", Run.on(LIVELY, "land 1 1 -1 -1 ! SIZE", "land 1 1 0 -1 ! SIZE",
                "land 1 1 11 MIN ! SIZE", "land 2 2 0 -1 ! SIZE"));
        Run.run("INDEX: not all cells are there", Run.on(LIVELY, "land 1 1 -1 1 ! INDEX", "land 1 1 0 11 ! INDEX",
                "land 1 1 2 9 ! INDEX", "land 1 1 10 1 ! INDEX", "land 1 1 MIN 9 ! INDEX", "land 1 1 1 MAX ! INDEX",
                "land 1 1 MAX 1 ! INDEX", "land 1 1 MAX MAX ! INDEX", "land 2 2 0 1 ! INDEX", "land 1 1 1 9 = 4"));
        Run.run("INDEX, where none of them is taken, too", Run.on(LIVELY, "land 1 1 -1 0 ! INDEX", "land 1 1 11 0 ! INDEX",
                "land 1 1 MAX 0 ! INDEX", "land 1 1 MIN 0 ! INDEX", "land 2 2 1 0 ! INDEX", "land 2 2 -1 0 ! INDEX",
                "land 1 1 10 0 ! -100", "land 1 1 0 0 ! -100", "land 2 2 0 0 ! -100"));
        Run.run("-100 less the FIRST FAULT: no FAULT of the machine, and nothing changes",
                Run.on(LIVELY, "land 1 1 0 10 ! -100", "fault = 0", "land 1 1 1 8 ! -108", "fault = 0"));
    }

    private static void takenMakesAnew() {
        Run.run("A TEXT that is taken makes all anew", Run.on(LIVELY, "land 1 1 1 9 = 4", "many 0 = 4", "many 1 = 2",
                "many 2 = 2", "ofCell 4 0 ! UNKNOWN", "ofCell 1 0 = 0", "ofCell 0 1 = 10"));
        Run.run("no BELLS", Run.on(LIVELY, "land 1 1 1 9 = 4", "many 3 = 0", "ofBell 0 0 ! UNKNOWN", "ofCell 0 3 = 0",
                "whose 0 0 = DEAF", "turns 0 -1 = 0", "settles 0 0 ! STATE", "bell 1 3 2 = 0", "ofBell 1 0 ! UNKNOWN",
                "whose 0 0 = 0"));
        Run.run("no REPORTS", Run.on(LIVELY, "land 1 1 1 9 = 4", "many 5 = 0", "untrue = 0", "back 1 ! OUTSIDE",
                "bell 0 0 1 = 0", "bell 0 1 1 = 1", "leaves 0 0 = 99", "report 0 0 1 0 = 0", "untrue = 1"));
        Run.run("nothing is PLANTED", Run.on(LIVELY, "land 1 1 1 9 = 4", "many 4 = 0", "ofCell 1 2 = 0", "plant 1 false = 0",
                "text g23;000;000 = 6", "bell 0 0 5 = 0", "loud 0 2 0 = 1/1"));
        Run.run("EAR 10", Run.on(LIVELY, "land 1 1 1 9 = 4", "many 6 = 10", "ear 3 = 10"));
        Run.run("but for the SHEETS", Run.on(LIVELY, "row 2 2 : 8 MAX", "land 1 1 1 9 = 4", "cell 1 0 1 = 7", "cell 1 1 1 = 103",
                "cell 1 9 1 = 48", "cell 1 10 1 ! LOST 3", "cell 0 0 0 = 103", "cell 0 10 0 = 53", "cell 0 11 0 ! LOST 3", "cell 2 0 2 = 8",
                "cell 2 1 2 = 2147483647", "cell 2 2 2 ! LOST 3", "cell 3 0 2 ! LOST 1"));
        Run.run("and TRACE", Run.on(LIVELY, "trace = 91327", "land 1 1 1 9 = 4", "trace = 91327"));
        Run.run("a LAND that is as it was is made anew, too", Run.on(LIVELY, "land 0 0 0 11 = 6", "many 3 = 0",
                "many 4 = 0", "many 5 = 0", "many 6 = 10"));
    }

    /** Whatever the widest LAND with all its BELLS, REPORTS and woods was, a small one behind it is as on a new object. */
    private static void smallBehindWide() {
        for (int ear : new int[] {0, 5, 10, 40}) {
            for (int count = 0; count <= 3; count++) {
                BellLand x = Due.landed("g56;999999;909090;000000;090909;999999");
                for (int b = 0; b < 6; b++) {
                    Due.due("bell", x.bell(b % 3, b == 3 ? 1 : 29 - 5 * b, 99 - b), b);
                    x.plant(5 * b + 1, true);
                }
                for (int k = 0; k < 10; k++) {
                    Due.due("report", x.report(k, k, k % 6, (k + 1) % 6), k);
                }
                x.ear(0);
                x.settles(11, 0);
                x.turns(12, 0);
                x.hang(0, 9, 13, 0);
                x.keep(5, 6, 14, 0);
                smallAsNew(x, count, ear);
            }
        }
    }

    private static void smallAsNew(BellLand x, int count, int ear) {
        BellLand y = new BellLand();
        for (BellLand land : new BellLand[] {x, y}) {
            Due.due("a small land", Due.land(land, "g23;010;302"), 6);
            for (int b = 0; b < count; b++) {
                Due.due("bell", land.bell(2 - b, 2 * b, 5 + 3 * b), b);
            }
            land.ear(ear);
            Due.row(land, 1, 0, 13, 0);
        }
        for (int b = -1; b <= count; b++) {
            for (int wind = 0; wind <= 39; wind += 13) {
                same("reach", x.reach(b, wind), y.reach(b, wind));
                same("together", x.together(0, b, wind), y.together(0, b, wind));
                same("turns", x.turns(wind, b), y.turns(wind, b));
                same("after", x.after(b, wind, 3), y.after(b, wind, 3));
                same("pacts", x.pacts(wind, b), y.pacts(wind, b));
            }
            same("tithes", x.tithes(b, 1, 0, 0, 2, 0), y.tithes(b, 1, 0, 0, 2, 0));
            same("tithes", x.tithes(b, 1, 0, 0, 2, 1), y.tithes(b, 1, 0, 0, 2, 1));
            same("leaves", x.leaves(b, 0), y.leaves(b, 0));
        }
        for (int c = -1; c <= 6; c++) {
            same("bells", x.ofCell(c, 3), y.ofCell(c, 3));
            same("whose", x.whose(c, 13), y.whose(c, 13));
            same("cheapest", x.cheapest(c, 13, 0), y.cheapest(c, 13, 0));
            same("keep", x.keep(0, c, 13, -1), y.keep(0, c, 13, -1));
            same("loud", x.loud(0, c, 13, 0), y.loud(0, c, 13, 0));
            same("report", x.report(c, 13, 0, 1), y.report(c, 13, 0, 1));
        }
        same("hang", x.hang(0, 4, 13, 0), y.hang(0, 4, 13, 0));
        same("hang", x.hang(0, 4, 13, 1), y.hang(0, 4, 13, 1));
        same("settles", x.settles(13, 0), y.settles(13, 0));
        same("settles", x.settles(13, 1), y.settles(13, 1));
        same("untrue", x.untrue(), y.untrue());
        same("woods", x.many(4), y.many(4));
    }

    private static void same(String call, long behind, long anew) {
        Due.due(call + " of a small LAND behind a wide one", behind, anew);
    }

    // ---- Promises 3 to 5

    private static void cells() {
        Run.run("A CELL's TITHE is 10 less its HEIGHT", "text g22;09;18 = 4", "ofCell 0 1 = 10", "ofCell 1 1 = 1",
                "ofCell 2 1 = 9", "ofCell 3 1 = 2");
        Run.run("UNKNOWN: there is no such CELL, ahead of OUTSIDE", Run.on(LIVELY, "ofCell -1 4 ! UNKNOWN",
                "ofCell 6 -1 ! UNKNOWN", "ofCell 6 0 ! UNKNOWN", "ofCell MAX 0 ! UNKNOWN", "ofCell MIN 0 ! UNKNOWN"));
        Run.run("OUTSIDE: what is 0 .. 3", Run.on(LIVELY, "ofCell 0 -1 ! OUTSIDE", "ofCell 5 4 ! OUTSIDE",
                "ofCell 0 MAX ! OUTSIDE", "ofCell 0 MIN ! OUTSIDE", "ofCell 0 0 = 1", "ofCell 5 3 = 0"));
        Run.run("whether it is PLANTED", Run.on(LIVELY, "ofCell 1 2 = 1", "ofCell 0 2 = 0", "plant 5 true = 1",
                "ofCell 5 2 = 1", "plant 1 false = 1", "ofCell 1 2 = 0"));
        Run.run("how many BELLS hang in it: none, all six", "text g22;00;00 = 4", "ofCell 3 3 = 0", "bell 0 3 1 = 0",
                "ofCell 3 3 = 1", "bell 1 3 1 = 1", "bell 2 3 1 = 2", "bell 0 3 1 = 3", "bell 0 3 1 = 4", "bell 0 3 1 = 5",
                "ofCell 3 3 = 6", "bell 0 3 1 ! FULL", "ofCell 0 3 = 0");
    }

    private static void planting() {
        Run.run("1; 0: it was so", "text g22;00;00 = 4", "plant 0 false = 0", "plant 0 true = 1", "plant 0 true = 0",
                "plant 0 false = 1", "plant 0 false = 0", "many 4 = 0");
        Run.run("UNKNOWN: the first and the last CELL are there", Run.on(LIVELY, "plant -1 true ! UNKNOWN",
                "plant 6 true ! UNKNOWN", "plant -1 false ! UNKNOWN", "plant 6 false ! UNKNOWN", "plant 32 true ! UNKNOWN",
                "plant MAX true ! UNKNOWN", "plant MIN true ! UNKNOWN", "plant 0 true = 1", "plant 5 true = 1", "many 4 = 3"));
        List<String> all = new ArrayList<>(List.of("text " + text(5, 6) + " = 30", "bell 0 7 1 = 0"));
        for (int c = 0; c < 30; c++) {
            all.add("plant " + c + " true = 1");
            all.add("many 4 = " + (c + 1));
        }
        all.add("plant 30 true ! UNKNOWN");
        for (int c = 29; c >= 0; c--) {
            all.add("plant " + c + " false = 1");
            all.add("many 4 = " + c);
        }
        Run.run("all thirty CELLS, those with BELLS too, and none again", all);
    }

    private static void ears() {
        Run.run("EAR (0 .. 99): what it was", "text g22;00;00 = 4", "ear 0 = 10", "many 6 = 0", "ear 99 = 0", "many 6 = 99",
                "ear 99 = 99", "ear 1 = 99");
        Run.run("OUTSIDE", Run.on(LIVELY, "ear -1 ! OUTSIDE", "ear 100 ! OUTSIDE", "ear MIN ! OUTSIDE", "ear MAX ! OUTSIDE"));
        Run.run("STATE: there is no LAND, behind OUTSIDE", "ear -1 ! OUTSIDE", "ear 100 ! OUTSIDE", "ear 0 ! STATE",
                "ear 99 ! STATE", "many 6 = 0", "text g22;00;0 ! -108", "ear 5 ! STATE", "text g22;00;00 = 4", "ear 5 = 10");
    }
}
