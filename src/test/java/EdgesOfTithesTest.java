import java.util.ArrayList;
import java.util.List;

/** Promises 12 to 17 and Terms 3 TITHES: each sentence that names a boundary, at both ends. */
public final class EdgesOfTithesTest {
    private static final String WIDEST = "text g56;000000;000000;000000;000000;000000 = 30";
    private static final String FLAT = "text g22;00;00 = 4";
    private static final String FLAT_3 = "text g23;000;000 = 6";
    private static final String[] TWO = {"text g23;120;035 = 6", "bell 0 0 10 = 0", "bell 2 4 8 = 1", "report 3 0 0 1 = 0",
        "plant 1 true = 1", "tell 1 = 116", "row 0 0 : 0 39 40 -1", "row 1 1 : 0 19 39", "row 2 2 :", "put 3 0 0 ! NULL"};

    public static void main(String[] args) {
        days();
        parts();
        tithesRefused();
        tithesOfWindsOutside();
        winning();
        winsRefused();
        cheapest();
        cheapestRefused();
        hanging();
        hangRefused();
        together();
        togetherRefused();
        pacts();
        pactsRefused();
        Due.end();
    }

    // ---- TITHES

    private static void days() {
        String[] one = {"text g22;09;18 = 4", "bell 0 0 99 = 0", "row 1 2 : 0 9 10 19 20 29 30 39"};
        Run.run("for each day: no day at all", Run.on(one, "tithes 0 1 2 0 0 = 0/1", "tithes 0 1 2 8 0 = 0/1", "row 2 0 :",
                "tithes 0 2 0 0 0 = 0/1"));
        Run.run("for each day: one, two, all", Run.on(one, "tithes 0 1 2 0 1 = 22/1", "tithes 0 1 2 7 1 = 22/1",
                "tithes 0 1 2 6 2 = 44/1", "tithes 0 1 2 0 8 = 176/1"));
        Run.run("a year of the most days, and CELLS", WIDEST, "bell 2 0 99 = 0", "sheet 3 0 60 = 1", "tithes 0 3 0 0 60 = 18000/1",
                "tithes 0 3 0 59 1 = 300/1", "tithes 0 3 0 1 59 = 17700/1");
        Run.run("each day by its own WIND", FLAT_3, "bell 0 0 4 = 0", "bell 0 2 4 = 1", "row 1 0 : 11 31 11 0",
                "tithes 0 1 0 0 1 = 40/1", "tithes 0 1 0 1 1 = 20/1", "tithes 0 1 0 0 2 = 60/1", "tithes 0 1 0 0 3 = 100/1",
                "tithes 0 1 0 3 1 = 30/1", "tithes 1 1 0 0 4 = 110/1");
        Run.run("and CELL that is its own: none", "text g22;09;18 = 4", "bell 0 0 9 = 0", "bell 0 0 8 = 1", "row 1 1 : 0 0",
                "tithes 1 1 1 0 2 = 0/1", "tithes 0 1 1 0 2 = 44/1", "ear 99 = 10", "tithes 0 1 1 0 2 = 0/1");
        Run.run("by an EAR of 0, which hears all", "text g22;09;18 = 4", "bell 0 0 1 = 0", "ear 0 = 10", "row 1 2 : 0 39", "tithes 0 1 2 0 1 = 22/1",
                "tithes 0 1 2 0 2 = 44/1", "bell 0 0 1 = 1", "tithes 0 1 2 0 1 = 11/1", "recast 1 2 = 1", "tithes 0 1 2 0 2 = 0/1");
        for (int sort = 0; sort <= 2; sort++) {
            Run.run("by n such cells, of SORT " + sort, Run.on(one, "row 3 " + sort + " : 40 0 39 -1",
                    "tithes 0 3 " + sort + " 1 2 = 44/1"));
        }
    }

    private static void parts() {
        // Each has its part of 10, 1, 9 and 2, as they are shared by so many.
        String[] due = {"22/1", "11/1", "22/3", "11/2", "22/5", "11/3"};
        List<String> lines = new ArrayList<>(List.of("text g22;09;18 = 4", "row 1 2 : 0 0"));
        for (int b = 0; b < 6; b++) {
            lines.add("bell 0 0 99 = " + b);
            lines.add("tithes " + b + " 1 2 0 1 = " + due[b]);
            lines.add("tithes 0 1 2 1 1 = " + due[b]);
        }
        lines.add("tithes 3 1 2 0 2 = 22/3");
        Run.run("of SHARED ones its part", lines);
        Run.run("its part of own and of SHARED ones", "text g22;00;99 = 4", "bell 0 0 6 = 0", "bell 1 0 6 = 1", "bell 2 0 6 = 2",
                "row 1 0 : 0 0 0", "tithes 0 1 0 0 1 = 10/3", "tithes 1 1 0 0 1 = 28/3", "tithes 0 1 0 0 3 = 10/1",
                "recast 0 1 = 6", "tithes 0 1 0 0 3 = 0/1", "tithes 2 1 0 0 1 = 11/1");
        Run.run("SHARED, but not HEARD", "text g22;00;00 = 4", "bell 0 0 1 = 0", "bell 0 0 1 = 1", "row 1 0 : 0",
                "tithes 0 1 0 0 1 = 5/1", "ear 5 = 10", "tithes 0 1 0 0 1 = 15/1", "ear 11 = 5", "tithes 0 1 0 0 1 = 0/1");
    }

    private static void tithesRefused() {
        Run.run("LOST: UNKNOWN: BELL, SHEET, ahead of all", Run.on(TWO, "tithes -1 1 1 0 1 0 ! LOST", "tithes 2 1 1 0 1 0 ! LOST",
                "tithes MAX 3 0 0 1 0 ! LOST", "tithes MIN 3 0 0 1 0 ! LOST", "tithes 0 -1 1 0 1 0 ! LOST",
                "tithes 0 4 1 0 1 0 ! LOST", "tithes 0 MAX 1 0 1 0 ! LOST", "tithes 0 MIN 1 0 1 0 ! LOST",
                "tithes 2 3 0 -1 -1 2 ! LOST"));
        Run.run("OUTSIDE: sort, ahead of the FAULTS", Run.on(TWO, "tithes 0 1 -1 0 1 0 ! LOST", "tithes 0 1 3 0 1 0 ! LOST",
                "tithes 0 3 3 -1 -1 0 ! LOST", "tithes 0 3 MAX 0 1 0 ! LOST", "tithes 0 3 MIN 0 1 0 ! LOST"));
        Run.run("FAULTS CAST: ahead of SIZE and INDEX", Run.on(TWO, "tithes 0 1 0 0 -1 0 ! LOST 2", "tithes 0 1 2 9 1 0 ! LOST 2",
                "tithes 0 0 1 0 1 0 ! LOST 2", "tithes 0 2 0 0 0 2 ! LOST 2"));
        Run.run("NULL (nothing is no CAST), ahead of SIZE and INDEX", Run.on(TWO, "tithes 0 3 0 0 -1 0 ! LOST 1",
                "tithes 0 3 1 -1 0 0 ! LOST 1", "tithes 0 3 2 0 0 0 ! LOST 1", "tithes 0 3 2 0 0 2 ! LOST 1"));
        Run.run("SIZE, ahead of INDEX", Run.on(TWO, "tithes 0 1 1 0 -1 0 ! LOST 4", "tithes 0 1 1 -1 -1 2 ! LOST 4",
                "tithes 0 1 1 4 MIN 0 ! LOST 4"));
        Run.run("INDEX, ahead of which and of the WINDS", Run.on(TWO, "tithes 0 1 1 0 4 0 ! LOST 3", "tithes 0 1 1 1 3 0 ! LOST 3",
                "tithes 0 1 1 3 1 0 ! LOST 3", "tithes 0 1 1 -1 1 0 ! LOST 3", "tithes 0 1 1 MAX MAX 0 ! LOST 3",
                "tithes 0 1 1 1 MAX 0 ! LOST 3", "tithes 0 1 1 MIN 1 0 ! LOST 3", "tithes 0 1 1 4 0 0 ! LOST 3",
                "tithes 0 1 1 -1 0 0 ! LOST 3", "tithes 0 2 2 1 0 0 ! LOST 3", "tithes 0 1 1 0 4 2 ! LOST 3",
                "tithes 0 0 0 2 3 0 ! LOST 3", "tithes 0 1 1 3 0 0 = 0", "tithes 0 2 2 0 0 1 = 1", "tithes 0 1 1 0 3 0 = 45"));
    }

    private static void tithesOfWindsOutside() {
        Run.run("OUTSIDE: a WIND: the first, the last of them", Run.on(TWO, "tithes 0 0 0 0 3 0 ! LOST", "tithes 0 0 0 2 1 0 ! LOST",
                "tithes 0 0 0 3 1 0 ! LOST", "tithes 0 0 0 2 2 1 ! LOST", "tithes 0 0 0 0 2 1 = 1", "tithes 0 0 0 3 0 1 = 1"));
        Run.run("a WIND far outside", Run.on(TWO, "row 3 2 : 0 MAX 0 MIN 0 400 -39", "tithes 0 3 2 0 2 0 ! LOST",
                "tithes 0 3 2 2 2 0 ! LOST", "tithes 0 3 2 4 2 0 ! LOST", "tithes 0 3 2 6 1 0 ! LOST", "tithes 0 3 2 4 1 1 = 1"));
        Run.run("OUTSIDE: which", Run.on(TWO, "tithes 0 1 1 0 3 -1 ! LOST", "tithes 0 1 1 0 3 2 ! LOST", "tithes 0 1 1 0 0 2 ! LOST",
                "tithes 0 1 1 0 3 MAX ! LOST", "tithes 0 1 1 0 3 MIN ! LOST"));
    }

    // ---- WINS, CHEAPEST

    private static void winning() {
        Run.run("the least WEIGHT (1 .. 99): 1", FLAT, "bell 0 0 50 = 0", "wins 0 0 0 ! 1", "ear 0 = 10", "wins 0 3 0 = 1",
                "ear 3 = 0", "wins 0 3 0 = 1", "ear 4 = 3", "wins 0 3 0 = 2");
        Run.run("99, and NONE: by none (it has to be above the others)", FLAT, "bell 0 0 1 = 0", "bell 0 3 97 = 1", "wins 0 1 0 = 98",
                "recast 1 98 = 97", "wins 0 1 0 = 99", "recast 1 99 = 98", "wins 0 1 0 = NONE", "wins 1 1 0 = 2",
                "ofBell 0 2 = 1", "ofBell 1 2 = 99");
        Run.run("99, and NONE: it has to be HEARD", "text g24;0000;0000 = 8", "bell 0 0 1 = 0", "ear 98 = 10", "wins 0 3 0 = 98",
                "ear 99 = 98", "wins 0 3 0 = 99", "wins 0 7 0 = NONE", "wins 0 7 11 = 99", "wins 0 2 0 = 50");
        Run.run("others as they are, its own WEIGHT however it be", FLAT, "bell 0 0 99 = 0", "bell 0 0 10 = 1", "wins 1 2 0 = NONE",
                "wins 0 2 0 = 11", "recast 0 11 = 99", "wins 0 2 0 = 11", "recast 0 1 = 11", "wins 0 2 0 = 11", "wins 1 2 0 = 2",
                "bell 0 0 60 = 2", "wins 0 2 0 = 61", "wins 2 2 0 = 11");
        Run.run("one that is not HEARD is surpassed by what is", FLAT, "bell 0 0 1 = 0", "bell 0 3 1 = 1", "wins 0 1 0 = 2",
                "ear 5 = 10", "wins 0 1 0 = 2", "ear 20 = 5", "wins 0 1 0 = 4", "ear 21 = 20", "wins 0 1 0 = 5");
    }

    private static void winsRefused() {
        Run.run("wins: UNKNOWN: BELL, CELL, ahead of OUTSIDE", Run.on(TWO, "wins -1 0 40 ! UNKNOWN", "wins 2 0 0 ! UNKNOWN",
                "wins MAX 0 0 ! UNKNOWN", "wins MIN 0 0 ! UNKNOWN", "wins 0 -1 -1 ! UNKNOWN", "wins 0 6 0 ! UNKNOWN",
                "wins 0 MAX 0 ! UNKNOWN", "wins 0 MIN 0 ! UNKNOWN"));
        Run.run("wins: OUTSIDE: WIND", Run.on(TWO, "wins 0 0 -1 ! OUTSIDE", "wins 1 5 40 ! OUTSIDE", "wins 0 0 MAX ! OUTSIDE",
                "wins 0 0 MIN ! OUTSIDE", "wins 0 0 39 = 8", "wins 1 5 0 = 3"));
    }

    private static void cheapest() {
        Run.run("NONE: none can", FLAT, "cheapest 0 0 0 = NONE", "cheapest 0 0 1 = NONE", "bell 0 0 99 = 0", "bell 0 3 99 = 1",
                "cheapest 1 0 0 = NONE", "cheapest 1 0 1 = NONE", "recast 1 98 = 99", "cheapest 1 0 0 = 0", "cheapest 1 0 1 = 0");
        Run.run("0, if WINS is no more than WEIGHT", FLAT, "bell 0 0 9 = 0", "bell 0 3 10 = 1", "cheapest 1 0 0 = 1",
                "cheapest 1 0 1 = 0", "recast 1 99 = 10", "cheapest 1 0 0 = 1", "cheapest 1 0 1 ! 0", "recast 1 8 = 99",
                "cheapest 1 0 0 = 0", "cheapest 1 0 1 = 0");
        Run.run("how much more: 1, 98", "text g24;0000;0000 = 8", "bell 0 0 98 = 0", "ear 99 = 10", "cheapest 3 0 0 = 0",
                "cheapest 3 0 1 = 1", "recast 0 1 = 98", "cheapest 3 0 1 = 98", "cheapest 3 0 0 ! 0", "recast 0 99 = 1",
                "cheapest 3 0 1 = 0", "cheapest 7 0 0 = NONE", "cheapest 7 0 1 = NONE");
        Run.run("of several the least", FLAT, "bell 0 0 10 = 0", "bell 0 3 10 = 1", "cheapest 1 0 0 = 0", "cheapest 1 0 1 = 1",
                "cheapest 2 0 0 = 0", "bell 0 3 10 = 2", "cheapest 1 0 0 = 0", "recast 0 5 = 10", "cheapest 1 0 0 = 1",
                "cheapest 1 0 1 = 1");
        Run.run("not the one that wins by the least WEIGHT, but by the least more", FLAT, "bell 0 0 1 = 0", "bell 0 1 10 = 1",
                "bell 0 1 10 = 2", "wins 0 0 0 = 6", "wins 1 0 0 = 11", "cheapest 0 0 0 = 1", "cheapest 0 0 1 = 1",
                "recast 0 5 = 1", "cheapest 0 0 0 = 0", "cheapest 0 0 1 = 1");
        Run.run("the last one of six", FLAT, "bell 0 3 50 = 0", "bell 0 3 50 = 1", "bell 0 3 50 = 2", "bell 0 3 50 = 3",
                "bell 0 3 50 = 4", "bell 0 0 16 = 5", "cheapest 0 0 0 = 0", "cheapest 0 0 1 = 1", "recast 5 17 = 16",
                "cheapest 0 0 0 = 5", "cheapest 0 0 1 = 0");
    }

    private static void cheapestRefused() {
        Run.run("cheapest: UNKNOWN, ahead of OUTSIDE", Run.on(TWO, "cheapest -1 40 0 ! UNKNOWN", "cheapest 6 0 2 ! UNKNOWN",
                "cheapest 6 0 0 ! UNKNOWN", "cheapest MAX 0 0 ! UNKNOWN", "cheapest MIN 0 0 ! UNKNOWN"));
        Run.run("cheapest: OUTSIDE", Run.on(TWO, "cheapest 0 -1 0 ! OUTSIDE", "cheapest 5 40 0 ! OUTSIDE",
                "cheapest 0 MAX 0 ! OUTSIDE", "cheapest 0 MIN 0 ! OUTSIDE", "cheapest 0 0 -1 ! OUTSIDE", "cheapest 0 0 2 ! OUTSIDE",
                "cheapest 0 0 MAX ! OUTSIDE", "cheapest 0 0 MIN ! OUTSIDE", "cheapest 0 39 0 = 0", "cheapest 5 0 1 = 0"));
    }

    // ---- HANG

    private static void hanging() {
        Run.run("the CELL in which it would have the most; of several the least", FLAT, "hang 0 1 0 0 ! 0", "hang 0 1 0 1 ! 1",
                "hang 0 2 0 0 = 0", "hang 0 2 0 1 = 3", "hang 0 3 0 0 = 0", "hang 0 3 0 1 = 4", "hang 0 2 5 0 = 2",
                "hang 0 2 5 1 = 4", "hang 0 2 35 0 = 1", "hang 0 2 15 0 = 0");
        Run.run("the first in the midst", "text g34;0000;0000;0000 = 12", "hang 0 2 0 0 = 5", "hang 0 2 0 1 = 5", "hang 0 1 0 0 = 0",
                "hang 0 1 0 1 = 1");
        Run.run("the last CELL", FLAT, "bell 0 0 99 = 0", "hang 0 34 0 0 = 3", "hang 0 34 0 1 = 1", "hang 0 33 0 0 = 0",
                "hang 0 33 0 1 = 0");
        Run.run("none at all: the least CELL", FLAT, "bell 0 0 99 = 0", "hang 0 1 0 0 = 0", "hang 0 1 0 1 = 0");
        Run.run("none is HEARD", WIDEST, "ear 99 = 10", "hang 0 9 0 0 = 0", "hang 0 9 0 1 = 0", "hang 0 10 0 0 = 0",
                "hang 0 10 0 1 = 1");
        Run.run("all thirty", WIDEST, "hang 0 99 0 0 = 0", "hang 0 99 0 1 = 30", "hang 2 99 39 0 = 0", "hang 2 99 39 1 = 30");
        Run.run("of its own: SHARED ones are none", FLAT, "bell 0 0 99 = 0", "hang 0 99 0 0 = 1", "hang 0 99 0 1 = 2",
                "bell 0 0 99 = 1", "bell 0 1 99 = 2", "bell 0 2 99 = 3", "bell 0 3 99 = 4", "hang 0 99 0 1 = 0", "hang 1 99 0 0 = 0",
                "hang 1 99 0 1 = 0");
        // From CELL 0 the hill dims 2, so that all six are reached from 1 alone; a GREAT one minds the wood in 4 only.
        Run.run("of a kind: over hills, over woods", "text g23;010;000 = 6", "hang 0 6 0 0 = 1", "hang 0 6 0 1 = 6", "hang 1 6 0 0 = 0",
                "hang 1 5 0 0 = 1", "hang 1 5 0 1 = 6", "hang 2 5 0 0 = 0", "hang 2 5 0 1 = 6", "plant 4 true = 1", "hang 2 5 0 0 = 1",
                "hang 2 5 0 1 = 6");
        Run.run("beside one that hangs", FLAT_3, "bell 0 1 4 = 0", "hang 0 4 0 0 = 4", "hang 0 4 0 1 = 3", "hang 1 4 0 0 = 1",
                "hang 1 4 0 1 = 5", "hang 0 5 0 0 = 1", "hang 0 5 0 1 = 6");
    }

    private static void hangRefused() {
        Run.run("hang: OUTSIDE, ahead of STATE", "hang 3 1 0 0 ! OUTSIDE", "hang 0 0 0 0 ! OUTSIDE", "hang 0 1 40 0 ! OUTSIDE",
                "hang 0 1 0 2 ! OUTSIDE", "hang 0 1 0 0 ! STATE", "hang 2 99 39 1 ! STATE");
        String[] outside = {"hang -1 1 0 0 ! OUTSIDE", "hang 3 1 0 0 ! OUTSIDE", "hang MAX 1 0 0 ! OUTSIDE", "hang MIN 1 0 0 ! OUTSIDE",
            "hang 0 0 0 0 ! OUTSIDE", "hang 0 100 0 0 ! OUTSIDE", "hang 0 MAX 0 0 ! OUTSIDE", "hang 0 MIN 0 0 ! OUTSIDE",
            "hang 0 1 -1 0 ! OUTSIDE", "hang 0 1 40 0 ! OUTSIDE", "hang 0 1 MAX 0 ! OUTSIDE", "hang 0 1 MIN 0 ! OUTSIDE",
            "hang 0 1 0 -1 ! OUTSIDE", "hang 0 1 0 2 ! OUTSIDE", "hang 0 1 0 MAX ! OUTSIDE", "hang 0 1 0 MIN ! OUTSIDE"};
        Run.run("hang: OUTSIDE", Run.on(TWO, outside));
        Run.run("hang: FULL: there are 6 BELLS, behind OUTSIDE", Run.on(Run.on(Run.on(TWO, "bell 0 0 1 = 2", "bell 0 0 1 = 3",
                "bell 0 0 1 = 4", "hang 0 99 0 1 ! 6", "bell 0 0 1 = 5"), outside), "hang 0 1 0 0 ! FULL", "hang 2 99 39 1 ! FULL"));
    }

    // ---- TOGETHER, PACTS

    private static void together() {
        // Above they are 1 and 1/2 together, below 1/2 and 1/3.
        Run.run("as LOUD as both; where that is HEARD", FLAT, "bell 0 0 1 = 0", "bell 0 1 1 = 1", "ear 8 = 10", "together 0 1 0 ! 15",
                "ear 9 = 8", "together 0 1 0 = 3", "ear 15 = 9", "together 0 1 0 = 3", "together 1 0 0 = 3", "ear 16 = 15",
                "together 0 1 0 = 0", "ear 0 = 16", "together 0 1 0 = 15");
        Run.run("above all others: as LOUD as one is not above it", FLAT, "bell 0 0 2 = 0", "bell 0 0 2 = 1", "bell 0 0 4 = 2",
                "together 0 1 0 = 0", "recast 2 3 = 4", "together 0 1 0 = 15", "together 1 2 0 = 15", "recast 2 5 = 3",
                "together 0 1 0 = 0", "bell 0 3 5 = 3", "together 0 1 0 = 0", "together 2 0 0 = 7", "recast 3 20 = 5",
                "together 2 0 0 = 1", "recast 3 21 = 20", "together 2 0 0 = 0", "together 2 3 0 = 15");
        Run.run("as a set: all thirty, the last alone", WIDEST, "bell 0 0 99 = 0", "bell 0 29 99 = 1", "together 0 1 0 = 1073741823",
                "recast 0 1 = 99", "recast 1 1 = 99", "together 0 1 0 = 536870913", "bell 0 0 99 = 2", "ear 99 = 10",
                "recast 1 10 = 1", "together 0 1 0 = 536870912");
        Run.run("by a WIND", FLAT_3, "bell 0 0 2 = 0", "bell 0 2 2 = 1", "ear 20 = 10", "together 0 1 0 = 7",
                "together 0 1 12 = 7", "together 0 1 19 = 7", "ear 24 = 20", "together 0 1 0 = 5", "together 0 1 19 = 6");
    }

    private static void togetherRefused() {
        Run.run("together: UNKNOWN: BELLS, they are one, ahead of OUTSIDE", Run.on(TWO, "together -1 0 40 ! UNKNOWN",
                "together 2 0 0 ! UNKNOWN", "together 0 -1 -1 ! UNKNOWN", "together 0 2 0 ! UNKNOWN", "together 0 0 40 ! UNKNOWN",
                "together 1 1 0 ! UNKNOWN", "together MAX 0 0 ! UNKNOWN", "together 0 MIN 0 ! UNKNOWN"));
        Run.run("together: OUTSIDE", Run.on(TWO, "together 0 1 -1 ! OUTSIDE", "together 1 0 40 ! OUTSIDE", "together 0 1 MAX ! OUTSIDE",
                "together 0 1 MIN ! OUTSIDE"));
    }

    private static void pacts() {
        Run.run("how many (k -1): no BELLS, one, none", FLAT, "pacts 0 -1 = 0", "pacts 0 0 = NONE", "bell 0 0 1 = 0", "pacts 0 -1 = 0",
                "pacts 0 0 = NONE", "bell 0 1 1 = 1", "pacts 0 -1 = 0", "pacts 0 0 = NONE");
        Run.run("half of it is more: not as much", FLAT, "bell 0 0 1 = 0", "bell 0 1 1 = 1", "together 0 1 0 = 3", "reach 0 0 = 1",
                "pacts 0 -1 = 0", "ear 8 = 10", "together 0 1 0 = 15", "pacts 0 -1 = 1", "pacts 0 0 = 1", "pacts 0 1 = NONE");
        Run.run("half a one more is more", "text g22;34;99 = 4", "bell 0 0 1 = 0", "bell 0 1 1 = 1", "ear 8 = 10", "pacts 0 -1 = 1");
        Run.run("than either has alone: the first has as much", "text g22;37;79 = 4", "bell 0 0 1 = 0", "bell 0 1 1 = 1", "ear 8 = 10",
                "together 0 1 0 = 15", "reach 0 0 = 1", "reach 1 0 = 2", "pacts 0 -1 = 0");
        Run.run("than either has alone: the second has as much", "text g22;73;79 = 4", "bell 0 0 1 = 0", "bell 0 1 1 = 1",
                "ear 8 = 10", "together 0 1 0 = 15", "pacts 0 -1 = 0");
        Run.run("(own CELLS): SHARED ones are none of them", FLAT, "bell 0 0 9 = 0", "bell 0 0 9 = 1", "pacts 0 -1 = 1",
                "pacts 0 0 = 1");
        int[] pairs = {1, 2, 3, 4, 5, 12, 13, 14, 15, 23, 24, 25, 34, 35, 45};
        List<String> all = new ArrayList<>(List.of(FLAT));
        for (int b = 0; b < 6; b++) {
            all.add("bell 0 0 9 = " + b);
        }
        all.add("pacts 39 -1 ! 15");
        for (int k = 0; k < 15; k++) {
            all.add("pacts 0 " + k + " = " + pairs[k]);
        }
        all.addAll(List.of("pacts 0 15 = NONE", "pacts 0 MAX = NONE", "recast 3 99 = 9", "pacts 0 -1 = 0"));
        Run.run("the k-th, in order; NONE: there are fewer", all);
    }

    private static void pactsRefused() {
        Run.run("pacts: OUTSIDE: WIND, ahead of UNKNOWN: k below -1", Run.on(TWO, "pacts -1 -2 ! OUTSIDE", "pacts 40 -2 ! OUTSIDE",
                "pacts MAX 0 ! OUTSIDE", "pacts MIN 0 ! OUTSIDE", "pacts 0 -2 ! UNKNOWN", "pacts 39 MIN ! UNKNOWN", "pacts 0 -1 ! 0"));
    }
}
