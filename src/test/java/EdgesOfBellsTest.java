import java.util.ArrayList;
import java.util.List;

/** Promises 6 to 11 and Terms 2 BELLS: each sentence that names a boundary, at both ends. */
public final class EdgesOfBellsTest {
    private static final String WIDEST = "text g56;000000;000000;000000;000000;000000 = 30";
    private static final String[] TWO = {"text g23;120;035 = 6", "bell 0 0 10 = 0", "bell 2 4 8 = 1", "report 3 0 0 1 = 0",
        "plant 1 true = 1", "tell 1 = 116", "put 3 0 0 ! NULL"};

    public static void main(String[] args) {
        hanging();
        kindsAndWeights();
        bellRefused();
        ofBell();
        recasting();
        distances();
        ways();
        hills();
        woods();
        winds();
        strengths();
        loudRefused();
        heard();
        whose();
        whoseRefused();
        reaching();
        Due.end();
    }

    // ---- Promises 6 to 8

    private static void hanging() {
        Run.run("BELLS, 6 at most, numbered from 0 on as they come", "text g22;00;00 = 4", "many 3 = 0", "bell 2 3 9 = 0",
                "bell 0 0 8 = 1", "bell 1 2 7 = 2", "bell 0 3 6 = 3", "bell 0 1 5 = 4", "many 3 = 5", "bell 2 0 4 = 5",
                "many 3 = 6", "bell 0 0 1 ! FULL", "bell 2 3 99 ! FULL", "ofBell 5 0 = 2", "ofBell 5 1 = 0", "ofBell 5 2 = 4",
                "ofBell 0 0 = 2", "ofBell 0 1 = 3", "ofBell 0 2 = 9", "ofBell 6 0 ! UNKNOWN");
        Run.run("each in a CELL (perhaps several in one)", "text g22;00;00 = 4", "bell 0 1 1 = 0", "bell 0 1 1 = 1",
                "ofBell 0 1 = 1", "ofBell 1 1 = 1", "ofCell 1 3 = 2");
        Run.run("a BELL hangs in the first and in the last CELL, and in one that is PLANTED", WIDEST, "bell 0 0 1 = 0",
                "bell 0 29 1 = 1", "plant 7 true = 1", "bell 0 7 1 = 2", "ofCell 29 3 = 1", "ofCell 7 3 = 1");
    }

    private static void kindsAndWeights() {
        Run.run("WEIGHT (1 .. 99)", "text g22;00;00 = 4", "bell 0 0 0 ! OUTSIDE", "bell 0 0 100 ! OUTSIDE",
                "bell 0 0 -1 ! OUTSIDE", "bell 0 0 MIN ! OUTSIDE", "bell 0 0 MAX ! OUTSIDE", "bell 0 0 1 = 0",
                "bell 0 0 99 = 1", "ofBell 0 2 = 1", "ofBell 1 2 = 99");
        Run.run("kind: 0 BELL; 1 TENOR; 2 GREAT", "text g22;00;00 = 4", "bell -1 0 1 ! OUTSIDE", "bell 3 0 1 ! OUTSIDE",
                "bell MIN 0 1 ! OUTSIDE", "bell MAX 0 1 ! OUTSIDE", "bell 0 0 1 = 0", "bell 1 0 1 = 1", "bell 2 0 1 = 2",
                "ofBell 0 0 = 0", "ofBell 1 0 = 1", "ofBell 2 0 = 2");
    }

    private static void bellRefused() {
        Run.run("UNKNOWN: CELL, ahead of OUTSIDE", Run.on(TWO, "bell 3 6 0 ! UNKNOWN", "bell -1 -1 100 ! UNKNOWN",
                "bell 0 6 1 ! UNKNOWN", "bell 0 -1 1 ! UNKNOWN", "bell 0 MAX 1 ! UNKNOWN", "bell 0 MIN 1 ! UNKNOWN"));
        Run.run("FULL, behind UNKNOWN and OUTSIDE", Run.on(TWO, "bell 0 0 1 = 2", "bell 0 0 1 = 3", "bell 0 0 1 = 4",
                "bell 0 0 1 = 5", "bell 0 6 1 ! UNKNOWN", "bell 3 0 1 ! OUTSIDE", "bell 0 0 100 ! OUTSIDE", "bell 0 0 1 ! FULL"));
    }

    private static void ofBell() {
        Run.run("UNKNOWN, ahead of OUTSIDE", Run.on(TWO, "ofBell -1 3 ! UNKNOWN", "ofBell 2 -1 ! UNKNOWN",
                "ofBell 2 0 ! UNKNOWN", "ofBell MAX 0 ! UNKNOWN", "ofBell MIN 0 ! UNKNOWN"));
        Run.run("OUTSIDE: what is 0 .. 2", Run.on(TWO, "ofBell 0 -1 ! OUTSIDE", "ofBell 1 3 ! OUTSIDE",
                "ofBell 0 MIN ! OUTSIDE", "ofBell 0 MAX ! OUTSIDE", "ofBell 1 0 = 2", "ofBell 1 1 = 4", "ofBell 1 2 = 8"));
    }

    private static void recasting() {
        Run.run("A BELL is recast: what its WEIGHT was (1 .. 99)", Run.on(TWO, "recast 0 1 = 10", "ofBell 0 2 = 1",
                "recast 0 99 = 1", "ofBell 0 2 = 99", "recast 0 99 = 99", "recast 1 98 = 8", "loud 0 0 0 = 99/1"));
        Run.run("UNKNOWN, ahead of OUTSIDE", Run.on(TWO, "recast 2 0 ! UNKNOWN", "recast -1 100 ! UNKNOWN",
                "recast 2 5 ! UNKNOWN", "recast MAX 5 ! UNKNOWN", "recast MIN 5 ! UNKNOWN"));
        Run.run("OUTSIDE", Run.on(TWO, "recast 0 0 ! OUTSIDE", "recast 1 100 ! OUTSIDE", "recast 0 -1 ! OUTSIDE",
                "recast 0 MIN ! OUTSIDE", "recast 0 MAX ! OUTSIDE"));
    }

    // ---- LOUD

    private static void distances() {
        Run.run("of a BELL WEIGHT by (1 and d), of a TENOR twice WEIGHT by (2 and d): d 0", "text g22;00;00 = 4",
                "bell 0 3 7 = 0", "bell 1 3 7 = 1", "bell 2 3 7 = 2", "loud 0 3 0 = 7/1", "loud 1 3 0 = 7/1",
                "loud 2 3 0 = 7/1");
        Run.run("d 1, rows and columns alike", "text g22;00;00 = 4", "bell 0 0 7 = 0", "bell 1 0 7 = 1", "bell 2 0 7 = 2",
                "loud 0 1 0 = 7/2", "loud 0 2 0 = 7/2", "loud 1 1 0 = 14/3", "loud 2 2 0 = 14/3", "loud 0 3 0 = 7/3",
                "loud 1 3 0 = 7/2", "loud 2 3 0 = 7/2");
        Run.run("d 41, the farthest", WIDEST, "bell 0 0 99 = 0", "bell 1 29 99 = 1", "bell 2 5 1 = 2", "loud 0 29 0 = 33/14",
                "loud 1 0 0 = 198/43", "loud 2 24 0 = 2/43", "recast 0 1 = 99", "loud 0 29 0 = 1/42");
        Run.run("in least terms", WIDEST, "bell 0 0 42 = 0", "bell 2 0 43 = 1", "loud 0 29 0 = 1/1", "loud 1 29 0 = 2/1",
                "recast 0 84 = 42", "loud 0 29 0 = 2/1", "recast 0 63 = 84", "loud 0 29 0 = 3/2");
    }

    private static long gcd(long a, long b) {
        return b == 0 ? a : gcd(b, a % b);
    }

    private static String share(long upper, long lower) {
        long common = gcd(upper, lower);
        return upper / common + "/" + lower / common;
    }

    /** Of all CELLS of the widest LAND just these lie BETWEEN: each of them halves, if it is PLANTED or a hill. */
    private static void way(int from, int to, int... between) {
        int d = (from / 6 - to / 6) * (from / 6 - to / 6) + (from % 6 - to % 6) * (from % 6 - to % 6);
        List<String> planted = new ArrayList<>(List.of(WIDEST, "bell 2 " + from + " 60 = 0"));
        for (int c = 0; c < 30; c++) {
            boolean lies = false;
            for (int b : between) {
                lies |= b == c;
            }
            String call = "loud 0 " + to + " 0 = ";
            planted.add("plant " + c + " true = 1");
            planted.add(call + share(120, (2 + d) * (lies ? 2 : 1)));
            planted.add("plant " + c + " false = 1");
            char[] hill = "g56;000000;000000;000000;000000;000000".toCharArray();
            hill[4 + c / 6 * 7 + c % 6] = '1';
            Run.run("BETWEEN " + from + " and " + to + ": a hill in " + c, "text " + new String(hill) + " = 30",
                    "bell 1 " + from + " 60 = 0", call + share(120, (2 + d) * (lies ? 2 : 1)));
        }
        Run.run("BETWEEN " + from + " and " + to + " lie n less 1 CELLS", planted);
    }

    private static void ways() {
        way(7, 7);
        for (int to : new int[] {0, 1, 2, 6, 8, 12, 13, 14}) {
            way(7, to);
        }
        way(7, 19, 13);
        way(19, 7, 13);
        way(9, 7, 8);
        // Half a row or column is one, from either end.
        way(0, 8, 7);
        way(8, 0, 1);
        way(2, 6, 7);
        way(6, 2, 1);
        way(0, 13, 7);
        way(13, 0, 6);
        // Thirds and quarters, fifths: cut, what is below a half is none.
        way(0, 9, 1, 8);
        way(9, 0, 8, 1);
        way(0, 15, 7, 8);
        way(15, 0, 8, 7);
        way(0, 10, 1, 8, 9);
        way(10, 0, 9, 2, 1);
        way(0, 22, 7, 14, 15);
        way(22, 0, 15, 8, 7);
        way(2, 25, 8, 13, 19);
        way(0, 24, 6, 12, 18);
        way(0, 5, 1, 2, 3, 4);
        way(0, 11, 1, 2, 9, 10);
        way(0, 17, 1, 8, 9, 16);
        way(0, 23, 7, 8, 15, 16);
        way(0, 29, 7, 14, 15, 22);
        way(5, 24, 10, 15, 14, 19);
        way(29, 0, 22, 15, 14, 7);
    }

    private static void hill(int bell, int between, int cell, boolean halves) {
        Run.run("higher than both CELLS: " + between + " between " + bell + " and " + cell,
                "text g23;" + bell + between + cell + ";000 = 6", "bell 0 0 10 = 0", "bell 1 0 9 = 1", "bell 2 0 9 = 2",
                "loud 0 2 0 = " + (halves ? "1/1" : "2/1"), "loud 1 2 0 = " + (halves ? "3/2" : "3/1"), "loud 2 2 0 = 3/1");
    }

    private static void hills() {
        hill(0, 0, 0, false);
        hill(0, 1, 0, true);
        hill(4, 5, 4, true);
        hill(3, 5, 4, true);
        hill(4, 5, 3, true);
        hill(5, 5, 4, false);
        hill(4, 5, 5, false);
        hill(5, 4, 3, false);
        hill(3, 4, 5, false);
        hill(8, 9, 8, true);
        hill(9, 9, 9, false);
        hill(0, 9, 9, false);
        hill(9, 9, 0, false);
        Run.run("halved for each of them", "text g26;001110;000000 = 12", "bell 0 0 26 = 0", "bell 1 0 27 = 1",
                "bell 2 0 27 = 2", "loud 0 5 0 = 1/8", "loud 1 5 0 = 1/4", "loud 2 5 0 = 2/1", "loud 0 4 0 = 26/17");
        Run.run("hills beside the way and behind its ends are none", "text g25;90009;99999 = 10", "bell 0 1 10 = 0",
                "loud 0 3 0 = 2/1");
    }

    private static void woods() {
        String[] three = {"text g24;0000;0000 = 8", "bell 0 0 10 = 0", "bell 1 0 11 = 1", "bell 2 0 11 = 2"};
        Run.run("and for each that is PLANTED (of a GREAT one, too)", Run.on(three, "loud 0 3 0 = 1/1", "plant 1 true = 1",
                "loud 0 3 0 = 1/2", "loud 1 3 0 = 1/1", "loud 2 3 0 = 1/1", "plant 2 true = 1", "loud 0 3 0 = 1/4",
                "loud 1 3 0 = 1/2", "loud 2 3 0 = 1/2", "plant 1 false = 1", "loud 2 3 0 = 1/1"));
        Run.run("neither CELL lies between", Run.on(three, "plant 0 true = 1", "plant 3 true = 1", "loud 0 3 0 = 1/1",
                "loud 2 3 0 = 2/1", "loud 0 0 0 = 10/1"));
        Run.run("one that is higher and PLANTED halves twice", "text g23;010;000 = 6", "bell 0 0 10 = 0", "bell 1 0 9 = 1",
                "bell 2 0 9 = 2", "plant 1 true = 1", "loud 0 2 0 = 1/2", "loud 1 2 0 = 3/4", "loud 2 2 0 = 3/2");
        Run.run("four CELLS between, high and PLANTED", "text g26;011110;000000 = 12", "bell 0 0 1 = 0", "bell 1 0 1 = 1",
                "bell 2 0 1 = 2", "plant 1 true = 1", "plant 2 true = 1", "plant 3 true = 1", "plant 4 true = 1",
                "loud 0 5 0 = 1/6656", "loud 1 5 0 = 1/3456", "loud 2 5 0 = 1/216", "loud 0 5 39 = 5/63232");
        Run.run("a BELL that hangs in a PLANTED CELL, and in one that is planted behind it", "text g23;000;000 = 6",
                "plant 1 true = 1", "bell 0 0 5 = 0", "loud 0 2 0 = 1/2", "bell 0 2 5 = 1", "loud 1 0 0 = 1/2",
                "plant 1 false = 1", "loud 1 0 0 = 1/1", "loud 0 2 0 = 1/1");
    }

    // ---- WINDS

    private static void wind(int where, int strong, int[] with, int[] against, int[] aside) {
        List<String> lines = new ArrayList<>(List.of("text g33;000;000;000 = 9", "bell 0 4 6 = 0", "loud 0 4 0 = 6/1"));
        int wind = 10 * where + strong;
        for (int c : with) {
            int near = c % 2 == 1 ? 3 : 2;
            lines.add("loud 0 " + c + " " + wind + " = " + share(near * (10 + strong), 10));
        }
        for (int c : against) {
            int near = c % 2 == 1 ? 3 : 2;
            lines.add("loud 0 " + c + " " + wind + " = " + share(near * 10, 10 + strong));
        }
        for (int c : aside) {
            lines.add("loud 0 " + c + " " + wind + " = 3/1");
        }
        lines.add("loud 0 4 " + wind + " = 6/1");
        Run.run("where the WIND " + wind + " blows to, any rows, columns that way", lines);
    }

    private static void winds() {
        for (int strong = 0; strong <= 9; strong++) {
            wind(0, strong, new int[] {0, 1, 2}, new int[] {6, 7, 8}, new int[] {3, 5});
            wind(1, strong, new int[] {2, 5, 8}, new int[] {0, 3, 6}, new int[] {1, 7});
            wind(2, strong, new int[] {6, 7, 8}, new int[] {0, 1, 2}, new int[] {3, 5});
            wind(3, strong, new int[] {0, 3, 6}, new int[] {2, 5, 8}, new int[] {1, 7});
        }
    }

    private static void strengths() {
        Run.run("10 times where it blows to and how strong: 9 is up, 10 is right, and not strong", "text g33;000;000;000 = 9",
                "bell 0 4 2 = 0", "loud 0 1 9 = 19/10", "loud 0 5 9 = 1/1", "loud 0 7 9 = 10/19", "loud 0 1 10 = 1/1",
                "loud 0 5 10 = 1/1", "loud 0 5 11 = 11/10", "loud 0 5 19 = 19/10", "loud 0 3 19 = 10/19", "loud 0 7 20 = 1/1",
                "loud 0 7 29 = 19/10", "loud 0 1 29 = 10/19", "loud 0 3 30 = 1/1", "loud 0 3 39 = 19/10", "loud 0 5 39 = 10/19");
        Run.run("the farthest CELLS are borne as near ones", WIDEST, "bell 0 0 42 = 0", "loud 0 29 19 = 19/10",
                "loud 0 29 29 = 19/10", "loud 0 29 9 = 10/19", "loud 0 29 39 = 10/19");
    }

    private static void loudRefused() {
        Run.run("LOST: UNKNOWN: BELL, CELL", Run.on(TWO, "loud -1 0 0 0 ! LOST", "loud 2 0 0 0 ! LOST", "loud MAX 0 0 0 ! LOST",
                "loud MIN 0 0 0 ! LOST", "loud 0 -1 0 0 ! LOST", "loud 0 6 0 0 ! LOST", "loud 0 MAX 0 1 ! LOST",
                "loud 0 MIN 0 1 ! LOST"));
        Run.run("OUTSIDE: WIND, which", Run.on(TWO, "loud 0 0 -1 0 ! LOST", "loud 0 0 40 0 ! LOST", "loud 0 0 MAX 0 ! LOST",
                "loud 0 0 MIN 0 ! LOST", "loud 0 0 0 -1 ! LOST", "loud 0 0 0 2 ! LOST", "loud 0 0 0 MAX ! LOST",
                "loud 0 0 0 MIN ! LOST", "loud 1 5 39 = 160/57", "loud 1 5 19 = 152/15"));
    }

    // ---- HEARD, and whose

    private static void heard() {
        Run.run("no less than EAR by 10", "text g22;00;00 = 4", "bell 0 0 2 = 0", "ear 10 = 10", "whose 1 0 = 0", "ear 11 = 10",
                "whose 1 0 = DEAF", "ear 6 = 11", "whose 3 0 = 0", "ear 7 = 6", "whose 3 0 = DEAF", "ear 20 = 7", "whose 0 0 = 0",
                "ear 21 = 20", "whose 0 0 = DEAF");
        Run.run("by the WIND", "text g22;00;00 = 4", "bell 0 0 2 = 0", "ear 19 = 10", "whose 1 19 = 0", "whose 1 18 = DEAF",
                "ear 20 = 19", "whose 1 19 = DEAF", "ear 5 = 20", "whose 1 39 = 0", "ear 6 = 5", "whose 1 39 = DEAF",
                "whose 1 36 = 0");
        Run.run("EAR 0: all is HEARD", "text g26;011110;000000 = 12", "bell 0 0 1 = 0", "plant 1 true = 1", "plant 2 true = 1",
                "plant 3 true = 1", "plant 4 true = 1", "ear 0 = 10", "whose 5 39 = 0", "reach 0 39 = 4095", "ear 1 = 0",
                "whose 5 39 = DEAF");
        Run.run("EAR 99", "text g24;0000;0000 = 8", "bell 0 0 99 = 0", "ear 99 = 10", "whose 3 0 = 0", "whose 7 0 = DEAF",
                "recast 0 98 = 99", "whose 3 0 = DEAF", "recast 0 10 = 98", "whose 0 0 = 0", "recast 0 9 = 10", "whose 0 0 = DEAF");
    }

    private static void whose() {
        Run.run("the BELL, SHARED, DEAF (no BELLS: that)", "text g22;00;00 = 4", "whose 0 0 = DEAF", "whose 3 39 = DEAF",
                "ear 0 = 10", "whose 0 0 = DEAF", "bell 0 0 1 = 0", "whose 3 0 = 0", "bell 0 0 1 = 1", "whose 3 0 = SHARED");
        Run.run("no other one is as LOUD", "text g23;000;000 = 6", "bell 0 0 40 = 0", "bell 0 2 40 = 1", "whose 1 0 = SHARED",
                "recast 1 41 = 40", "whose 1 0 = 1", "recast 1 39 = 41", "whose 1 0 = 0", "recast 1 40 = 39", "whose 1 11 = 0",
                "whose 1 31 = 1", "whose 1 10 = SHARED", "whose 1 9 = SHARED");
        Run.run("alike, though of other kinds, distances", "text g23;000;000 = 6", "bell 0 0 3 = 0", "bell 2 5 3 = 1",
                "loud 0 1 0 = 3/2", "loud 1 1 0 = 3/2", "whose 1 0 = SHARED", "whose 2 0 = 1", "whose 0 0 = 0");
        Run.run("alike, though by other WINDS' shares", "text g33;000;000;000 = 9", "bell 0 3 20 = 0", "bell 0 5 20 = 1",
                "whose 4 12 = 0", "recast 1 28 = 20", "loud 0 4 12 = 12/1", "loud 1 4 12 = 35/3", "whose 4 12 = 0",
                "recast 1 29 = 28", "whose 4 12 = 1", "recast 0 10 = 20", "recast 1 16 = 29", "loud 0 4 15 = 15/2",
                "loud 1 4 15 = 16/3", "recast 0 30 = 10", "recast 1 99 = 16", "loud 0 4 18 = 27/1", "loud 1 4 18 = 55/2",
                "whose 4 18 = 1", "recast 0 20 = 30", "recast 1 45 = 99", "whose 4 15 = SHARED", "recast 1 46 = 45", "whose 4 15 = 1");
        Run.run("DEAF, though two are alike, if they are not HEARD", "text g22;00;00 = 4", "bell 0 0 1 = 0", "bell 0 0 1 = 1",
                "whose 1 0 = DEAF", "ear 5 = 10", "whose 1 0 = SHARED", "ear 6 = 5", "whose 1 0 = DEAF");
        Run.run("by all six alike", "text g22;00;00 = 4", "bell 0 0 9 = 0", "bell 0 0 9 = 1", "bell 0 0 9 = 2", "bell 0 0 9 = 3",
                "bell 0 0 9 = 4", "bell 0 0 9 = 5", "whose 0 0 = SHARED", "recast 5 10 = 9", "whose 0 0 = 5", "recast 5 8 = 10",
                "whose 0 0 = SHARED", "reach 5 0 = 0", "reach 4 0 = 15");
    }

    private static void whoseRefused() {
        Run.run("whose: UNKNOWN, ahead of OUTSIDE", Run.on(TWO, "whose -1 40 ! UNKNOWN", "whose 6 -1 ! UNKNOWN",
                "whose 6 0 ! UNKNOWN", "whose MAX 0 ! UNKNOWN", "whose MIN 0 ! UNKNOWN"));
        Run.run("whose: OUTSIDE", Run.on(TWO, "whose 0 -1 ! OUTSIDE", "whose 5 40 ! OUTSIDE", "whose 0 MAX ! OUTSIDE",
                "whose 0 MIN ! OUTSIDE", "whose 0 39 = 0", "whose 5 0 = 1"));
        Run.run("reach: UNKNOWN, ahead of OUTSIDE", Run.on(TWO, "reach -1 40 ! UNKNOWN", "reach 2 -1 ! UNKNOWN",
                "reach 2 0 ! UNKNOWN", "reach MAX 0 ! UNKNOWN", "reach MIN 0 ! UNKNOWN"));
        Run.run("reach: OUTSIDE", Run.on(TWO, "reach 0 -1 ! OUTSIDE", "reach 1 40 ! OUTSIDE", "reach 0 MAX ! OUTSIDE",
                "reach 0 MIN ! OUTSIDE"));
    }

    private static void reaching() {
        Run.run("as a set (bit k for CELL k): all thirty", WIDEST, "bell 0 0 99 = 0", "reach 0 0 = 1073741823", "reach 0 39 = 1073741823");
        Run.run("the first and the last alone", WIDEST, "bell 0 0 1 = 0", "bell 0 29 1 = 1", "reach 0 0 = 1",
                "reach 1 0 = 536870912");
        Run.run("none", WIDEST, "bell 0 0 9 = 0", "ear 91 = 10", "reach 0 0 = 0", "ear 90 = 91", "reach 0 0 = 1");
        Run.run("its own, and SHARED ones", "text g23;000;000 = 6", "bell 0 0 2 = 0", "bell 0 2 2 = 1", "bell 0 5 9 = 2",
                "reach 0 0 = 1", "reach 1 0 = 0", "reach 2 0 = 62", "recast 2 2 = 9", "reach 0 0 = 11", "reach 1 0 = 6",
                "reach 2 0 = 48");
    }
}
