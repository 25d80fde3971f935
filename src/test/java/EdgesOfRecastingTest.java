/** Promises 24 and 25 and Terms 5 RECASTING: each sentence that names a boundary, at both ends. */
public final class EdgesOfRecastingTest {
    private static final String FLAT = "text g22;00;00 = 4";
    private static final String[] LIVELY = {"text g23;120;035 = 6", "bell 0 0 10 = 0", "bell 2 4 8 = 1", "report 3 0 0 1 = 0",
        "plant 1 true = 1", "tell 1 = 116", "put 3 0 0 ! NULL"};

    public static void main(String[] args) {
        leastAndMostWeight();
        oneLessOrMore();
        bellAfterBell();
        settlesSoon();
        settlesLate();
        rings();
        settlesRefused();
        afterRefused();
        Due.end();
    }

    private static void leastAndMostWeight() {
        Run.run("(1 .. 99): of WEIGHT 1 there is no 1 less", FLAT, "bell 0 0 1 = 0", "ear 99 = 10", "after 0 0 1 = 1", "settles 0 0 = 1",
                "settles 0 1 = 1", "recast 0 2 = 1", "after 0 0 1 = 1", "after 0 0 2 = 1", "settles 0 0 = 2", "settles 0 1 = 1");
        // By 100 it would have three CELLS, by 99 and 98 one.
        Run.run("(1 .. 99): of WEIGHT 99 there is no 1 more", FLAT, "bell 0 0 99 = 0", "bell 0 3 99 = 1", "after 0 0 1 = 98",
                "after 1 0 1 = 99", "after 0 0 2 = 97", "after 1 0 2 = 98");
        Run.run("99 is taken, if it is the most", FLAT, "bell 0 0 98 = 0", "bell 0 3 98 = 1", "after 0 0 1 = 99", "after 1 0 1 = 97");
    }

    private static void oneLessOrMore() {
        // Alone by 1, 2, 3 it has 1, 3, 4 CELLS: 9, 28, 37; by more always 4.
        Run.run("its WEIGHT less 1, as it is, 1 more", FLAT, "bell 0 0 1 = 0", "after 0 0 0 = 1", "after 0 0 1 = 2", "after 0 0 2 = 3",
                "after 0 0 3 = 3", "recast 0 3 = 1", "after 0 0 1 = 3", "recast 0 4 = 3", "after 0 0 1 = 3", "recast 0 6 = 4",
                "after 0 0 1 = 5", "after 0 0 2 = 4", "after 0 0 3 = 3", "after 0 0 4 = 3");
        Run.run("10 times its own CELLS: SHARED ones are none", FLAT, "bell 0 0 5 = 0", "bell 0 0 5 = 1", "after 0 0 1 = 6",
                "after 1 0 1 = 4");
        Run.run("a CELL more is worth a WEIGHT more, though none else", FLAT, "bell 0 0 9 = 0", "ear 99 = 10", "after 0 0 1 = 10",
                "recast 0 8 = 9", "after 0 0 1 = 7", "after 0 0 200 = 1");
    }

    private static void bellAfterBell() {
        // 3 and 3 in one CELL: 0 takes 4 and has all, so 1 gives in; then 3 is enough for 0.
        Run.run("in each BELL after BELL, as those ahead have become", FLAT, "bell 0 0 3 = 0", "bell 0 0 3 = 1", "after 0 0 1 = 4",
                "after 1 0 1 = 2", "after 0 0 2 = 3", "after 1 0 2 = 1", "after 0 0 3 = 3", "settles 0 0 = 3", "settles 0 1 = 1");
        Run.run("six BELLS, the last one alone gains", FLAT, "bell 0 0 1 = 0", "bell 0 0 1 = 1", "bell 0 0 1 = 2", "bell 0 0 1 = 3",
                "bell 0 0 1 = 4", "bell 0 0 2 = 5", "after 0 0 1 = 1", "after 4 0 1 = 1", "after 5 0 1 = 3", "settles 0 0 = 2",
                "settles 0 1 = 1");
    }

    private static void settlesSoon() {
        Run.run("1: nobody would", FLAT, "bell 0 0 3 = 0", "settles 0 0 ! 1", "settles 0 1 ! 1", "after 0 0 200 ! 3");
        Run.run("behind how many rounds for the first time", FLAT, "bell 0 0 4 = 0", "settles 0 0 = 2", "settles 0 1 = 1",
                "recast 0 5 = 4", "settles 0 0 = 3", "settles 0 1 = 1", "recast 0 99 = 5", "settles 0 0 = 97", "settles 0 1 = 1",
                "after 0 0 96 = 3", "after 0 0 95 = 4", "ofBell 0 2 = 99");
        // By an up WIND of 9 they take 11 and 17, then 12 and 16 again.
        Run.run("as they were (or ahead of all)", "text g32;00;00;00 = 6", "bell 0 4 12 = 0", "bell 0 5 16 = 1", "ear 20 = 10",
                "settles 9 0 ! 2", "settles 9 1 ! 2", "after 0 9 0 = 12", "after 1 9 0 = 16", "after 0 9 1 = 11", "after 1 9 1 = 17",
                "after 0 9 2 = 12", "after 1 9 2 = 16", "after 0 9 199 = 11", "after 1 9 199 = 17", "after 0 9 200 = 12",
                "after 1 9 200 = 16");
    }

    private static void settlesLate() {
        Run.run("199", "text g44;0211;2202;1202;1100 = 16", "bell 2 13 1 = 0", "bell 2 4 19 = 1", "bell 0 7 16 = 2", "bell 2 7 16 = 3",
                "ear 9 = 10", "settles 32 0 = 199", "settles 32 1 = 2");
        Run.run("200 at most", "text g43;012;002;212;011 = 12", "bell 0 5 67 = 0", "bell 1 10 84 = 1", "bell 0 4 94 = 2", "ear 18 = 10",
                "settles 21 0 ! 200", "settles 21 1 ! 2");
        // They are as they were behind 201 rounds.
        Run.run("else NONE", "text g44;0012;0220;1121;2121 = 16", "bell 2 14 16 = 0", "bell 2 2 11 = 1", "bell 0 2 20 = 2", "ear 17 = 10",
                "settles 22 0 ! NONE", "settles 22 1 ! NONE", "after 0 22 200 = 13");
    }

    private static void rings() {
        Run.run("how many rounds ago that was", "text g54;1015;2340;4233;1010;2350 = 20", "bell 1 19 7 = 0", "bell 2 4 5 = 1",
                "bell 1 9 1 = 2", "ear 11 = 10", "settles 29 0 = 8", "settles 29 1 = 2");
        Run.run("a ring of six", "text g34;4024;2213;1301 = 12", "bell 1 5 2 = 0", "bell 2 6 8 = 1", "bell 1 2 7 = 2", "bell 2 5 1 = 3",
                "bell 2 5 5 = 4", "bell 0 9 6 = 5", "ear 2 = 10", "settles 31 0 = 11", "settles 31 1 = 6");
    }

    private static void settlesRefused() {
        Run.run("settles: OUTSIDE, ahead of STATE: there are no BELLS", "settles -1 0 ! OUTSIDE", "settles 40 0 ! OUTSIDE", "settles 0 -1 ! OUTSIDE",
                "settles 0 2 ! OUTSIDE", "settles 0 0 ! STATE", "settles 39 1 ! STATE", FLAT, "settles 0 2 ! OUTSIDE", "settles 0 0 ! STATE",
                "settles 39 1 ! STATE", "bell 0 0 3 = 0", "settles 39 1 = 1", FLAT, "settles 0 0 ! STATE");
        Run.run("settles: OUTSIDE", Run.on(LIVELY, "settles -1 0 ! OUTSIDE", "settles 40 1 ! OUTSIDE", "settles MAX 0 ! OUTSIDE",
                "settles MIN 0 ! OUTSIDE", "settles 0 -1 ! OUTSIDE", "settles 39 2 ! OUTSIDE", "settles 0 MAX ! OUTSIDE", "settles 0 MIN ! OUTSIDE"));
    }

    private static void afterRefused() {
        Run.run("after: UNKNOWN, ahead of OUTSIDE", Run.on(LIVELY, "after -1 40 201 ! UNKNOWN", "after 2 -1 -1 ! UNKNOWN", "after 2 0 0 ! UNKNOWN",
                "after MAX 0 0 ! UNKNOWN", "after MIN 0 0 ! UNKNOWN"));
        Run.run("after: OUTSIDE", Run.on(LIVELY, "after 0 -1 0 ! OUTSIDE", "after 1 40 0 ! OUTSIDE", "after 0 MAX 0 ! OUTSIDE", "after 0 MIN 0 ! OUTSIDE"));
        Run.run("so many rounds (0 .. 200)", Run.on(LIVELY, "after 0 0 -1 ! OUTSIDE", "after 1 39 201 ! OUTSIDE", "after 0 0 MAX ! OUTSIDE",
                "after 0 0 MIN ! OUTSIDE", "after 0 0 0 ! 10", "after 1 39 0 ! 8", "after 0 0 200 ! 10"));
    }
}
