import java.util.ArrayList;
import java.util.List;

/** Promises 18 to 23 and Terms 4 REPORTS: each sentence that names a boundary, at both ends. */
public final class EdgesOfReportsTest {
    private static final String FLAT = "text g22;00;00 = 4";
    private static final String[] TWO = {FLAT, "bell 0 0 10 = 0", "bell 0 3 10 = 1"};
    private static final String[] LIVELY = {"text g23;120;035 = 6", "bell 0 0 10 = 0", "bell 2 4 8 = 1", "report 3 0 0 1 = 0",
        "report 5 15 1 0 = 1", "plant 1 true = 1", "tell 1 = 116", "put 3 0 0 ! NULL"};

    public static void main(String[] args) {
        reporting();
        reportRefused();
        takingBack();
        untrue();
        leaving();
        leavesRefused();
        keeping();
        keepingTheFewest();
        keepingWithoutThese();
        keepRefused();
        turning();
        clashing();
        turnsRefused();
        Due.end();
    }

    // ---- REPORTS

    private static void reporting() {
        List<String> ten = new ArrayList<>(List.of(TWO));
        for (int k = 0; k < 10; k++) {
            ten.add("many 5 = " + k);
            ten.add("report 0 0 1 0 = " + k);
        }
        ten.addAll(List.of("many 5 = 10", "report 0 0 0 1 ! FULL", "report 3 39 1 0 ! FULL", "untrue ! 1023", "back 1 = 9",
                "report 0 0 0 1 = 9", "report 0 0 0 1 ! FULL", "untrue = 511", "back 10 = 0", "untrue = 0", "report 3 39 0 1 = 0"));
        Run.run("REPORTS, 10 at most, numbered by how many there are ahead (the first one is 0)", ten);
        Run.run("a REPORT that is there already, and its contrary, are REPORTS too", Run.on(TWO, "report 0 0 0 1 = 0",
                "report 0 0 0 1 = 1", "report 0 0 1 0 = 2", "many 5 = 3"));
        Run.run("the last CELL, the last WIND, the last BELL", "text g56;000000;000000;000000;000000;000000 = 30", "bell 0 0 1 = 0",
                "bell 0 0 1 = 1", "bell 0 0 1 = 2", "bell 0 0 1 = 3", "bell 0 0 1 = 4", "bell 0 29 9 = 5", "report 29 39 5 0 = 0",
                "report 29 39 4 5 = 1", "untrue = 2");
    }

    private static void reportRefused() {
        Run.run("UNKNOWN: CELL, BELLS, they are one, ahead of OUTSIDE", Run.on(LIVELY, "report -1 40 0 1 ! UNKNOWN",
                "report 6 0 0 1 ! UNKNOWN", "report MAX 0 0 1 ! UNKNOWN", "report MIN 0 0 1 ! UNKNOWN", "report 0 -1 -1 1 ! UNKNOWN",
                "report 0 0 2 1 ! UNKNOWN", "report 0 0 MAX 1 ! UNKNOWN", "report 0 40 0 -1 ! UNKNOWN", "report 0 0 0 2 ! UNKNOWN",
                "report 0 0 0 MIN ! UNKNOWN", "report 0 40 0 0 ! UNKNOWN", "report 5 0 1 1 ! UNKNOWN"));
        Run.run("OUTSIDE: WIND", Run.on(LIVELY, "report 0 -1 0 1 ! OUTSIDE", "report 5 40 1 0 ! OUTSIDE", "report 0 MAX 0 1 ! OUTSIDE",
                "report 0 MIN 0 1 ! OUTSIDE"));
        String[] eight = new String[8];
        for (int k = 0; k < 8; k++) {
            eight[k] = "report 0 0 0 1 = " + (k + 2);
        }
        Run.run("FULL, behind UNKNOWN and OUTSIDE", Run.on(Run.on(LIVELY, eight), "report 6 0 0 1 ! UNKNOWN", "report 0 0 1 1 ! UNKNOWN",
                "report 0 0 2 0 ! UNKNOWN", "report 0 40 0 1 ! OUTSIDE", "report 0 0 0 1 ! FULL"));
    }

    private static void takingBack() {
        Run.run("The last k REPORTS (0 .. as many as there are)", Run.on(TWO, "report 0 0 0 1 = 0", "report 0 0 1 0 = 1",
                "report 3 0 1 0 = 2", "report 3 0 0 1 = 3", "untrue = 10", "back 0 ! 4", "back 1 = 3", "untrue = 2", "back 4 ! OUTSIDE",
                "back 2 = 1", "untrue = 0", "back 1 = 0", "back 0 = 0", "back 1 ! OUTSIDE"));
        Run.run("all of them", Run.on(LIVELY, "back 2 = 0", "many 5 = 0", "untrue = 0", "report 0 0 1 0 = 0", "untrue = 1"));
        Run.run("OUTSIDE", Run.on(LIVELY, "back -1 ! OUTSIDE", "back 3 ! OUTSIDE", "back MAX ! OUTSIDE", "back MIN ! OUTSIDE"));
    }

    private static void untrue() {
        Run.run("FALSE ones: as LOUD is not LOUDER", Run.on(TWO, "report 1 0 0 1 = 0", "report 1 0 1 0 = 1", "untrue = 3",
                "recast 0 11 = 10", "untrue = 2", "recast 0 9 = 11", "untrue = 1"));
        Run.run("by its own WIND", Run.on(TWO, "report 1 10 0 1 = 0", "report 1 11 0 1 = 1", "report 1 31 0 1 = 2", "report 1 0 1 0 = 3",
                "report 1 1 1 0 = 4", "report 1 21 1 0 = 5", "untrue = 45"));
        Run.run("as all is: WEIGHTS, what is PLANTED", "text g23;000;000 = 6", "bell 0 0 20 = 0", "bell 0 5 7 = 1", "report 2 0 0 1 = 0",
                "untrue ! 0", "plant 1 true = 1", "untrue = 1", "recast 1 3 = 7", "untrue = 0", "recast 1 4 = 3", "untrue = 1",
                "plant 1 false = 1", "untrue = 0");
        Run.run("whether they are HEARD does not matter", Run.on(TWO, "recast 1 9 = 10", "report 1 0 0 1 = 0", "report 1 0 1 0 = 1",
                "untrue = 2", "leaves 1 2 = NONE", "ear 99 = 10", "whose 1 0 = DEAF", "untrue = 2", "ear 0 = 99", "untrue = 2", "back 1 = 1",
                "ear 99 = 0", "leaves 0 0 = 90", "leaves 0 1 = 10"));
    }

    // ---- LEAVES

    private static void leaving() {
        Run.run("all 99 by no REPORT that names it", Run.on(TWO, "bell 1 1 5 = 2", "leaves 0 0 = 99", "leaves 0 1 = 1", "leaves 0 2 = 99",
                "report 0 0 1 0 = 0", "untrue = 1", "leaves 2 0 = 99", "leaves 2 1 = 1", "leaves 2 2 = 99"));
        Run.run("none: 0, NONE, NONE", Run.on(TWO, "recast 1 99 = 10", "report 1 0 0 1 = 0", "leaves 0 0 = 0", "leaves 0 1 = NONE",
                "leaves 0 2 = NONE", "recast 0 1 = 10", "leaves 1 0 = 0", "leaves 1 1 = NONE", "leaves 1 2 = NONE"));
        Run.run("just 99, just 1", Run.on(TWO, "recast 1 98 = 10", "report 1 0 0 1 = 0", "leaves 0 0 = 1", "leaves 0 1 = 99",
                "leaves 0 2 ! 99", "recast 0 2 = 10", "leaves 1 0 = 1", "leaves 1 1 = 1", "leaves 1 2 = 1"));
        Run.run("all but one of them", Run.on(TWO, "recast 1 1 = 10", "report 1 0 0 1 = 0", "leaves 0 0 = 98", "leaves 0 1 = 2",
                "leaves 0 2 = 99", "recast 0 99 = 10", "leaves 1 0 = 98", "leaves 1 1 = 1", "leaves 1 2 = 98"));
        Run.run("by all REPORTS that name it, as the one or as the other", Run.on(TWO, "bell 0 0 30 = 2", "report 1 0 0 1 = 0",
                "report 1 0 2 0 = 1", "leaves 0 0 = 19", "leaves 0 1 = 11", "leaves 0 2 = 29", "recast 2 12 = 30", "leaves 0 0 = 1",
                "recast 2 11 = 12", "leaves 0 0 = 0", "leaves 0 1 = NONE", "back 1 = 1", "leaves 0 0 = 89", "leaves 0 2 = 99"));
        Run.run("LEAVES with a gap at neither end: 31 .. 34", Run.on(TWO, "bell 0 3 35 = 2", "report 3 0 0 1 = 0", "report 1 0 2 0 = 1",
                "leaves 0 0 = 4", "leaves 0 1 = 31", "leaves 0 2 = 34", "ofBell 0 2 = 10"));
    }

    private static void leavesRefused() {
        Run.run("leaves: UNKNOWN, ahead of OUTSIDE", Run.on(LIVELY, "leaves -1 3 ! UNKNOWN", "leaves 2 -1 ! UNKNOWN", "leaves 2 0 ! UNKNOWN",
                "leaves MAX 0 ! UNKNOWN", "leaves MIN 0 ! UNKNOWN"));
        Run.run("leaves: OUTSIDE: what is 0 .. 2", Run.on(LIVELY, "leaves 0 -1 ! OUTSIDE", "leaves 1 3 ! OUTSIDE", "leaves 0 MAX ! OUTSIDE",
                "leaves 0 MIN ! OUTSIDE"));
    }

    // ---- KEEP

    /** How many, and all three CELLS. */
    private static String[] keep(String call, String... answers) {
        String[] lines = new String[answers.length];
        for (int q = -1; q < answers.length - 1; q++) {
            lines[q + 1] = "keep " + call + " " + q + " ! " + answers[q + 1];
        }
        return lines;
    }

    private static void keeping() {
        // BELL 0 in 5 is half its WEIGHT in 4; BELL 1 in 0 a seventeenth of its own there, over 1, 2, 3.
        String[] row = {"text g26;000000;000000 = 12", "bell 0 5 6 = 0", "bell 0 0 34 = 1"};
        Run.run("none is needed: 0 CELLS", Run.on(row, keep("0 4 0", "0", "NONE", "NONE", "NONE")));
        Run.run("as LOUD as another one is not its own: 1 CELL", Run.on(Run.on(row, "recast 1 51 = 34"),
                keep("0 4 0", "1", "1", "NONE", "NONE")));
        Run.run("2 CELLS", Run.on(Run.on(row, "recast 0 3 = 6", "recast 1 99 = 34"), keep("0 4 0", "2", "1", "2", "NONE")));
        Run.run("3 CELLS", Run.on(Run.on(row, "recast 0 2 = 6", "recast 1 99 = 34"), keep("0 4 0", "3", "1", "2", "3")));
        Run.run("NONE: it can't be: it is not HEARD", Run.on(Run.on(row, "recast 0 1 = 6", "recast 1 1 = 34"),
                keep("0 4 0", "NONE", "NONE", "NONE", "NONE")));
        Run.run("it is just HEARD", Run.on(Run.on(row, "recast 0 1 = 6", "recast 1 1 = 34", "ear 5 = 10"), keep("0 4 0", "0", "NONE", "NONE",
                "NONE")));
        Run.run("nothing lies between", Run.on(row, keep("1 5 0", "NONE", "NONE", "NONE", "NONE")));
        // TENOR 99 in 0 is 22 by 3 in 5: eight times 11 by 12, sixteen times less than a half.
        String[] four = {"text g26;000000;000000 = 12", "bell 0 11 2 = 0", "bell 1 0 99 = 1", "ear 0 = 10"};
        Run.run("the fewest (0 .. 3): 3 of four that lie between", Run.on(four, keep("0 5 0", "3", "1", "2", "3")));
        Run.run("four would serve: NONE", Run.on(Run.on(four, "recast 0 1 = 2"), keep("0 5 0", "NONE", "NONE", "NONE", "NONE")));
        Run.run("to be PLANTED besides: one of the four is PLANTED", Run.on(Run.on(four, "recast 0 1 = 2", "plant 3 true = 1"),
                keep("0 5 0", "3", "1", "2", "4")));
        Run.run("by a WIND of 9", Run.on(Run.on(four, "recast 0 1 = 2"), keep("0 5 39", "3", "1", "2", "3")));
        Run.run("by a WIND of 8 four would serve", Run.on(Run.on(four, "recast 0 1 = 2"), keep("0 5 38", "NONE", "NONE", "NONE", "NONE")));
        Run.run("of one BELL alone", FLAT, "bell 0 0 2 = 0", "keep 0 1 0 -1 = 0", "keep 0 3 0 -1 = NONE", "keep 0 3 0 0 = NONE");
    }

    private static void keepingTheFewest() {
        // In 29 BELL 0 is half its WEIGHT, 1 is 5 over 17, 23, and 2 is 5 over 16, 23.
        String[] land = {"text g56;000000;000000;000000;000000;000000 = 30", "bell 0 28 6 = 0", "bell 0 11 50 = 1", "bell 0 10 55 = 2"};
        Run.run("the fewest, though more with lesser numbers would serve", Run.on(land, keep("0 29 0", "1", "23", "NONE", "NONE")));
        Run.run("3, one in the way of both", Run.on(Run.on(land, "recast 0 4 = 6"), keep("0 29 0", "3", "16", "17", "23")));
        Run.run("1 is PLANTED already", Run.on(Run.on(land, "recast 0 4 = 6", "plant 17 true = 1"), keep("0 29 0", "2", "16", "23", "NONE")));
        Run.run("all are PLANTED already", Run.on(Run.on(land, "recast 0 4 = 6", "plant 16 true = 1", "plant 17 true = 1", "plant 23 true = 1"),
                keep("0 29 0", "0", "NONE", "NONE", "NONE")));
        Run.run("two for each are too few", Run.on(Run.on(land, "recast 0 2 = 6"), keep("0 29 0", "NONE", "NONE", "NONE", "NONE")));
        // In 28 BELL 0 is half its WEIGHT, 1 is 50 by 9 over 10, 16, 22: each of them serves.
        Run.run("of several the first as a row of numbers that grow", Run.on(new String[] {
            "text g56;000000;000000;000000;000000;000000 = 30", "bell 0 29 6 = 0", "bell 1 4 50 = 1"}, keep("0 28 0", "1", "10", "NONE", "NONE")));
        Run.run("of several pairs the first", Run.on(new String[] {"text g56;000000;000000;000000;000000;000000 = 30", "bell 0 29 3 = 0",
            "bell 1 4 50 = 1"}, keep("0 28 0", "2", "10", "16", "NONE")));
        // From 0 to 8 the way leads over 7, from 8 to 0 it would lead over 1.
        Run.run("on the way from the BELL to the CELL", Run.on(new String[] {"text g56;000000;000000;000000;000000;000000 = 30", "bell 0 9 6 = 0",
            "bell 0 0 18 = 1"}, keep("0 8 0", "1", "7", "NONE", "NONE")));
        // In 8 BELL 0 is 5 over 6, and 1 is 99 by 17 over 2, 4, 6.
        String[] column = {"text g52;00;00;00;00;00 = 10", "bell 0 4 25 = 0", "bell 0 0 99 = 1"};
        Run.run("what dims both is of no use", Run.on(column, keep("0 8 0", "1", "2", "NONE", "NONE")));
        Run.run("nor is what is PLANTED already", Run.on(Run.on(column, "plant 2 true = 1", "recast 0 14 = 25"),
                keep("0 8 0", "NONE", "NONE", "NONE", "NONE")));
    }

    private static void keepingWithoutThese() {
        String[] land = {"text g56;000000;000000;000000;000000;000000 = 30", "bell 0 28 6 = 0", "bell 0 11 50 = 1", "bell 0 10 55 = 2"};
        Run.run("nor one with a BELL: a BELL in 23", Run.on(Run.on(land, "bell 0 23 1 = 3"), keep("0 29 0", "2", "16", "17", "NONE")));
        Run.run("a BELL in 16 as well", Run.on(Run.on(land, "bell 0 23 1 = 3", "bell 1 16 1 = 4"), keep("0 29 0", "NONE", "NONE", "NONE", "NONE")));
        Run.run("one that has a BELL and is PLANTED already counts", Run.on(Run.on(land, "bell 0 23 1 = 3", "plant 23 true = 1"),
                keep("0 29 0", "0", "NONE", "NONE", "NONE")));
        Run.run("Neither the CELL: it lies in nobody's way to itself", Run.on(new String[] {FLAT, "bell 0 0 1 = 0", "bell 0 3 9 = 1"},
                keep("0 1 0", "NONE", "NONE", "NONE", "NONE")));
    }

    private static void keepRefused() {
        Run.run("keep: UNKNOWN: BELL, CELL, ahead of OUTSIDE", Run.on(LIVELY, "keep -1 0 40 3 ! UNKNOWN", "keep 2 0 0 -1 ! UNKNOWN",
                "keep MAX 0 0 0 ! UNKNOWN", "keep MIN 0 0 0 ! UNKNOWN", "keep 0 -1 40 -2 ! UNKNOWN", "keep 0 6 -1 0 ! UNKNOWN",
                "keep 0 6 0 -1 ! UNKNOWN", "keep 0 MAX 0 0 ! UNKNOWN", "keep 0 MIN 0 0 ! UNKNOWN"));
        Run.run("keep: OUTSIDE: WIND, ahead of UNKNOWN: q", Run.on(LIVELY, "keep 0 0 40 3 ! OUTSIDE", "keep 0 0 -1 -2 ! OUTSIDE",
                "keep 0 0 40 0 ! OUTSIDE", "keep 0 0 -1 -1 ! OUTSIDE", "keep 1 5 MAX 0 ! OUTSIDE", "keep 1 5 MIN 0 ! OUTSIDE"));
        Run.run("keep: UNKNOWN: q is not -1 .. 2", Run.on(LIVELY, "keep 0 0 0 -2 ! UNKNOWN", "keep 0 0 39 3 ! UNKNOWN",
                "keep 0 0 0 MAX ! UNKNOWN", "keep 0 0 0 MIN ! UNKNOWN", "keep 0 0 0 -1 = 0", "keep 0 0 0 2 = NONE"));
    }

    // ---- TURNS

    /** How many, and that of each BELL. */
    private static String[] turns(int wind, int... answers) {
        String[] lines = new String[answers.length];
        for (int b = -1; b < answers.length - 1; b++) {
            lines[b + 1] = "turns " + wind + " " + b + " ! " + answers[b + 1];
        }
        return lines;
    }

    private static void turning() {
        Run.run("no BELLS: 0", "turns 0 -1 = 0", "turns 0 0 ! UNKNOWN", FLAT, "turns 39 -1 = 0", "turns 39 0 ! UNKNOWN");
        Run.run("one BELL: 1, be it HEARD or not", Run.on(Run.on(new String[] {FLAT, "bell 0 0 1 = 0"}, turns(0, 1, 0)),
                Run.on(new String[] {"ear 99 = 10"}, turns(0, 1, 0))));
        String[] six = {FLAT, "bell 0 0 1 = 0", "bell 0 0 1 = 1", "bell 0 0 1 = 2", "bell 0 0 1 = 3", "bell 0 0 1 = 4", "bell 0 0 1 = 5"};
        Run.run("six that all CLASH: 6", Run.on(six, turns(0, 6, 0, 1, 2, 3, 4, 5)));
        Run.run("five of six that CLASH: 5", Run.on(Run.on(six, "recast 2 2 = 1", "ear 11 = 10", "recast 0 2 = 1", "recast 1 2 = 1",
                "recast 5 2 = 1", "recast 4 2 = 1"), turns(0, 5, 0, 1, 2, 0, 3, 4)));
        Run.run("six that are not HEARD: 1", Run.on(Run.on(six, "ear 11 = 10"), turns(0, 1, 0, 0, 0, 0, 0, 0)));
        // In a row of six CELLS BELLS of 2 CLASH two CELLS on. 0-2, 2-3, 3-1.
        Run.run("the fewest, which is not what each takes first", Run.on(new String[] {"text g26;000000;000000 = 12", "bell 0 0 2 = 0",
            "bell 0 5 2 = 1", "bell 0 2 2 = 2", "bell 0 3 2 = 3"}, turns(0, 2, 0, 1, 1, 0)));
        Run.run("the row of TURNS by BELLS that is the first", Run.on(new String[] {"text g26;000000;000000 = 12", "bell 0 0 1 = 0",
            "bell 0 5 1 = 1", "bell 0 5 1 = 2", "bell 0 0 1 = 3", "bell 0 5 1 = 4"}, turns(0, 3, 0, 0, 1, 1, 2)));
    }

    private static void clashing() {
        String[] far = {"text g26;000000;000000 = 12", "bell 0 0 2 = 0", "bell 0 2 2 = 1"};
        Run.run("both HEARD in some CELL: just HEARD", Run.on(far, turns(0, 2, 0, 1)));
        Run.run("just not", Run.on(Run.on(far, "ear 11 = 10"), turns(0, 1, 0, 0)));
        Run.run("one of them just not", Run.on(Run.on(far, "recast 1 1 = 2"), turns(0, 1, 0, 0)));
        Run.run("by a WIND: just HEARD", Run.on(new String[] {FLAT, "bell 0 0 1 = 0", "bell 0 1 1 = 1", "ear 9 = 10"}, turns(18, 2, 0, 1)));
        Run.run("by a WIND: just not", Run.on(new String[] {FLAT, "bell 0 0 1 = 0", "bell 0 1 1 = 1", "ear 9 = 10"}, turns(17, 1, 0, 0)));
        Run.run("in the last CELL alone", Run.on(new String[] {"text g56;000000;000000;000000;000000;000000 = 30", "bell 0 0 42 = 0",
            "bell 0 29 1 = 1"}, turns(0, 2, 0, 1)));
        Run.run("in no CELL", Run.on(new String[] {"text g56;000000;000000;000000;000000;000000 = 30", "bell 0 0 41 = 0",
            "bell 0 29 1 = 1"}, turns(0, 1, 0, 0)));
        Run.run("EAR 0: all CLASH", Run.on(new String[] {"text g56;000000;000000;000000;000000;000000 = 30", "bell 0 0 1 = 0",
            "bell 0 29 1 = 1", "ear 0 = 10"}, turns(0, 2, 0, 1)));
    }

    private static void turnsRefused() {
        Run.run("turns: OUTSIDE: WIND, ahead of UNKNOWN", Run.on(LIVELY, "turns -1 -2 ! OUTSIDE", "turns 40 2 ! OUTSIDE",
                "turns 40 -1 ! OUTSIDE", "turns -1 0 ! OUTSIDE", "turns MAX 0 ! OUTSIDE", "turns MIN 0 ! OUTSIDE"));
        Run.run("turns: UNKNOWN: b is not -1 .. how many BELLS less 1", Run.on(LIVELY, "turns 0 -2 ! UNKNOWN", "turns 39 2 ! UNKNOWN",
                "turns 0 MAX ! UNKNOWN", "turns 0 MIN ! UNKNOWN", "turns 39 1 = 1"));
    }
}
