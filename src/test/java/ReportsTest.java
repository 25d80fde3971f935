/** Promises 18 to 23: report, back, untrue, leaves, keep, turns. */
public final class ReportsTest {
    public static void main(String[] args) {
        reporting();
        takingBack();
        untrueOnes();
        leavingWeights();
        keeping();
        keepingTheFirstRow();
        keepingAmongBells();
        keepRefused();
        turnsOfBells();
        Due.end();
    }

    private static BellLand two() {
        BellLand x = Due.landed("g22;00;00");
        x.bell(0, 0, 10);
        x.bell(0, 3, 10);
        return x;
    }

    private static void reporting() {
        BellLand x = two();
        Due.due("no cell, nor wind", x.report(4, 40, 0, 1), -1);
        Due.due("cell -1", x.report(-1, 0, 0, 1), -1);
        Due.due("no bell", x.report(0, 40, 2, 1), -1);
        Due.due("no bell", x.report(0, 40, 0, 2), -1);
        Due.due("bell -1", x.report(0, 0, -1, 1), -1);
        Due.due("bell -1", x.report(0, 0, 0, -1), -1);
        Due.due("they are one", x.report(0, 40, 1, 1), -1);
        Due.due("wind 40", x.report(0, 40, 0, 1), -2);
        Due.due("wind -1", x.report(0, -1, 0, 1), -2);
        Due.due("none is there", x.many(5), 0);
        for (int k = 0; k < 10; k++) {
            Due.due("report", x.report(k % 4, 39 - k, k % 2, 1 - k % 2), k);
        }
        Due.due("full", x.report(0, 0, 0, 1), -4);
        Due.due("outside ahead of full", x.report(0, 40, 0, 1), -2);
        Due.due("unknown ahead of full", x.report(0, 0, 0, 0), -1);
        Due.due("ten", x.many(5), 10);
    }

    private static void takingBack() {
        BellLand x = two();
        Due.due("none", x.back(0), 0);
        Due.due("none to take", x.back(1), -2);
        for (int k = 0; k < 5; k++) {
            // The first is so, the other ones are false.
            x.report(0, 0, k == 0 ? 0 : 1, k == 0 ? 1 : 0);
        }
        Due.due("false ones", x.untrue(), 0b11110);
        Due.due("-1", x.back(-1), -2);
        Due.due("six", x.back(6), -2);
        Due.due("none taken", x.back(0), 5);
        Due.due("the last two", x.back(2), 3);
        Due.due("false ones", x.untrue(), 0b110);
        Due.due("the next number", x.report(0, 0, 0, 1), 3);
        Due.due("all", x.back(4), 0);
        Due.due("no false ones", x.untrue(), 0);
        Due.due("the first number", x.report(0, 0, 0, 1), 0);
    }

    private static void untrueOnes() {
        BellLand x = two();
        x.report(0, 0, 0, 1);
        x.report(3, 0, 0, 1);
        x.report(1, 0, 0, 1);
        x.report(1, 0, 1, 0);
        x.report(1, 12, 0, 1);
        x.report(1, 12, 1, 0);
        Due.due("near is so, far is false, alike is false both ways", x.untrue(), 0b101110);
        x.recast(1, 11);
        Due.due("as all is now", x.untrue(), 0b100110);
        x.recast(1, 12);
        Due.due("alike by the wind: 10 by 2 and a fifth more, 12 by 2", x.untrue(), 0b110110);
        x.recast(1, 13);
        Due.due("13 by 2 is above that", x.untrue(), 0b010110);
        x.recast(1, 31);
        Due.due("31 by 3 above 10", x.untrue(), 0b010111);
        x.ear(99);
        Due.due("whether it is heard does not count", x.untrue(), 0b010111);
    }

    private static void leaves(BellLand x, String call, int b, int howMany, int least, int greatest) {
        Due.due(call + ": how many", x.leaves(b, 0), howMany);
        Due.due(call + ": the least", x.leaves(b, 1), least);
        Due.due(call + ": the greatest", x.leaves(b, 2), greatest);
    }

    private static void leavingWeights() {
        BellLand x = two();
        leaves(x, "no report", 0, 99, 1, 99);
        x.report(3, 0, 0, 1);
        leaves(x, "W by 3 above 10", 0, 69, 31, 99);
        leaves(x, "10 by 3 above W", 1, 3, 1, 3);
        x.report(0, 0, 1, 0);
        leaves(x, "and W below 10 by 3", 0, 0, -9, -9);
        x.back(1);
        x.report(1, 0, 1, 0);
        leaves(x, "and W below 10", 0, 0, -9, -9);
        x.recast(1, 40);
        leaves(x, "W by 3 above 40, none", 0, 0, -9, -9);
        x.back(2);
        x.recast(1, 33);
        x.report(3, 0, 0, 1);
        leaves(x, "99 by 3 is just not above 33", 0, 0, -9, -9);
        x.recast(1, 32);
        leaves(x, "97 by 3 is above 32", 0, 3, 97, 99);
        Due.due("weights stay", x.ofBell(0, 2), 10);
        x.bell(2, 1, 5);
        leaves(x, "not named", 2, 99, 1, 99);
        x.report(1, 0, 0, 2);
        x.report(1, 15, 2, 1);
        // 10 by 2 above W; W above 32 by 2, which the wind does not bear upwards.
        leaves(x, "named in both places", 2, 0, -9, -9);
        x.recast(1, 4);
        leaves(x, "2 above W never, W below 5", 2, 2, 3, 4);
        Due.due("no bell", x.leaves(3, 3), -1);
        Due.due("bell -1", x.leaves(-1, 0), -1);
        Due.due("what 3", x.leaves(0, 3), -2);
        Due.due("what -1", x.leaves(0, -1), -2);
        Due.due("one value", x.recast(2, 99), 5);
        x.back(3);
        x.report(1, 0, 2, 0);
        leaves(x, "W below 198", 0, 99, 1, 99);
    }

    private static void keep(BellLand x, String call, int b, int c, int wind, int... cells) {
        Due.due(call + ": how many", x.keep(b, c, wind, -1), cells == null ? -9 : cells.length);
        for (int q = 0; q <= 2; q++) {
            Due.due(call + ": cell " + q, x.keep(b, c, wind, q), cells != null && q < cells.length ? cells[q] : -9);
        }
    }

    private static void keeping() {
        // Bell 0 is in 5, bell 1 in 0; the cell is 4: 2 against 34 by 17.
        BellLand x = Due.landed("g26;000000;000000");
        x.bell(0, 5, 6);
        x.bell(0, 0, 34);
        keep(x, "it is its own", 0, 4, 0);
        x.recast(1, 51);
        keep(x, "alike: one wood", 0, 4, 0, 1);
        keep(x, "the other one, too, wants a wood: there is no cell between", 1, 4, 0, null);
        x.recast(1, 99);
        keep(x, "99 by 17: one", 0, 4, 0, 1);
        x.recast(0, 3);
        keep(x, "3 by 2: two", 0, 4, 0, 1, 2);
        x.recast(0, 2);
        keep(x, "2 by 2: three, 99 by 17 by 4 is more", 0, 4, 0, 1, 2, 3);
        x.plant(1, true);
        keep(x, "1 is planted already", 0, 4, 0, 2, 3);
        x.plant(2, true);
        keep(x, "2, too", 0, 4, 0, 3);
        Due.due("nothing is planted for it", x.many(4), 2);
        x.plant(1, false);
        x.plant(2, false);
        x.bell(0, 2, 1);
        keep(x, "2 has a bell: two are too few", 0, 4, 0, null);
        x.recast(0, 3);
        keep(x, "1 and 3 are enough", 0, 4, 0, 1, 3);
        x.recast(0, 1);
        keep(x, "it is not heard", 0, 4, 0, null);
        x.ear(5);
        keep(x, "it is heard, but one by 2 is below", 0, 4, 0, null);
        x.recast(0, 6);
        keep(x, "99 by 34 is below 3", 0, 4, 0, 1);
        keep(x, "with the wind two woods are too few", 0, 4, 19, null);
        keep(x, "against the wind none is wanted", 0, 4, 39);
    }

    private static void keepingTheFirstRow() {
        // In the middle row of three: bells 1 and 2 at both ends of the upper row, bell 0 below.
        BellLand x = Due.landed("g55;00000;00000;00000;00000;00000");
        x.bell(1, 22, 8);
        x.bell(0, 0, 45);
        x.bell(0, 4, 45);
        // Cell 12: tenor 16 by 6, the others 45 by 9 = 5, a wood makes 5 by 2.
        keep(x, "one for each", 0, 12, 0, 6, 8);
        x.plant(6, true);
        keep(x, "the one that is left", 0, 12, 0, 8);
        x.plant(8, true);
        keep(x, "none", 0, 12, 0);
        x.plant(17, true);
        keep(x, "by its own wood it can't be", 0, 12, 0, null);
        // A wood in the way of two bells is better than one in the way of one.
        BellLand y = Due.landed("g25;00000;00000");
        y.bell(0, 9, 4);
        y.bell(0, 0, 40);
        y.bell(1, 0, 20);
        // Cell 4: bell 0 2, bell 1 40 by 17, bell 2 20 by 9; each of 1, 2, 3 is in the way of both.
        keep(y, "the first of three that serve", 0, 4, 0, 1);
        y.plant(1, true);
        y.plant(1, false);
        y.recast(0, 2);
        keep(y, "two of them", 0, 4, 0, 1, 2);
        // A wood dims its own bell, too: it is kept where the other one is dimmed more.
        BellLand z = Due.landed("g26;000000;000000");
        z.bell(0, 0, 60);
        z.bell(0, 1, 60);
        z.ear(0);
        // Cell 4: 60 by 17 behind 60 by 10; 2 and 3 are in the way of both, none in that of 1 alone.
        keep(z, "none is in its way alone", 0, 4, 0, null);
        keep(z, "it is the nearer one's", 1, 4, 0);
    }

    private static void keepingAmongBells() {
        BellLand x = Due.landed("g26;000000;000000");
        x.bell(0, 0, 4);
        x.bell(0, 5, 60);
        // Cell 1: 2 against 60 by 17.
        keep(x, "the cell next to it", 0, 1, 0, 2);
        x.bell(0, 2, 1);
        x.bell(0, 2, 1);
        keep(x, "two bells hang there", 0, 1, 0, 3);
        x.bell(0, 3, 1);
        keep(x, "in the next one, too", 0, 1, 0, 4);
        x.bell(0, 2, 1);
        keep(x, "the last one hangs behind", 0, 1, 0, 4);
        x.recast(0, 3);
        keep(x, "one wood is too few", 0, 1, 0, null);
        BellLand y = Due.landed("g26;000000;000000");
        y.bell(0, 2, 1);
        y.bell(0, 0, 4);
        y.bell(0, 5, 60);
        keep(y, "the first bell hangs there", 1, 1, 0, 3);
    }

    private static void keepRefused() {
        BellLand x = two();
        Due.due("no bell", x.keep(2, 0, 40, 9), -1);
        Due.due("bell -1", x.keep(-1, 0, 0, 0), -1);
        Due.due("no cell", x.keep(0, 4, 40, 9), -1);
        Due.due("cell -1", x.keep(0, -1, 0, 0), -1);
        Due.due("wind comes ahead of q", x.keep(0, 0, 40, 9), -2);
        Due.due("wind -1", x.keep(0, 0, -1, 0), -2);
        Due.due("q 3", x.keep(0, 0, 0, 3), -1);
        Due.due("q -2", x.keep(0, 0, 0, -2), -1);
        Due.due("q -1", x.keep(0, 0, 0, -1), 0);
    }

    private static void turns(BellLand x, String call, int wind, int fewest, int... row) {
        Due.due(call + ": how many", x.turns(wind, -1), fewest);
        for (int b = 0; b < row.length; b++) {
            Due.due(call + ": bell " + b, x.turns(wind, b), row[b]);
        }
    }

    private static void turnsOfBells() {
        BellLand x = new BellLand();
        Due.due("no land", x.turns(0, -1), 0);
        Due.due("wind comes first", x.turns(40, -2), -2);
        Due.due("wind -1", x.turns(-1, 0), -2);
        Due.due("no bell", x.turns(0, 0), -1);
        Due.land(x, "g26;000000;000000");
        turns(x, "no bells", 0, 0);
        // A bell of 1 is heard where it hangs alone; one of 2 next to that, too.
        x.bell(0, 0, 1);
        turns(x, "one", 0, 1, 0);
        x.bell(0, 2, 1);
        turns(x, "apart", 0, 1, 0, 0);
        x.bell(0, 0, 1);
        turns(x, "in one cell", 0, 2, 0, 0, 1);
        x.recast(1, 2);
        x.recast(0, 2);
        turns(x, "both heard in 1, which is neither's own", 0, 2, 0, 1, 1);
        x.ear(11);
        turns(x, "no more heard in 1", 0, 1, 0, 0, 0);
        x.ear(10);
        Due.due("no bell", x.turns(0, 3), -1);
        Due.due("b -2", x.turns(0, -2), -1);
        x.recast(0, 1);
        x.recast(1, 1);
        // By the wind: heard one cell on where the wind blows to, but only then.
        x.bell(0, 5, 1);
        turns(x, "three cells", 0, 2, 0, 0, 1, 0);
        // A path of clashes: the first row, not the one that paints each as low as it goes.
        BellLand y = Due.landed("g26;000000;000000");
        y.bell(0, 0, 2);
        y.bell(0, 5, 2);
        y.bell(0, 1, 2);
        y.bell(0, 4, 2);
        y.bell(0, 2, 1);
        y.bell(0, 3, 1);
        // 0-2, 2-4, 1-3, 3-5; 4 and 5 are heard where they hang alone.
        turns(y, "two rows of three", 0, 2, 0, 0, 1, 1, 0, 0);
        y.recast(4, 2);
        // Now 4 clashes with 3 (in cell 3) and 5 and 0 (in cell 1): 0-2, 0-4, 2-4 are three.
        turns(y, "three", 0, 3, 0, 0, 1, 1, 2, 0);
        // As few as can be is not what each takes greedily: 0 and 1 apart, yet 2-0, 3-1, 2-3 a path.
        BellLand z = Due.landed("g26;000000;000000");
        z.bell(0, 0, 2);
        z.bell(0, 5, 2);
        z.bell(0, 2, 2);
        z.bell(0, 3, 2);
        z.ear(10);
        // 0-2 in 1, 1-3 in 4, 2-3 in 2.
        turns(z, "a path of four", 0, 2, 0, 1, 1, 0);
        BellLand all = Due.landed("g22;00;00");
        for (int b = 0; b < 6; b++) {
            all.bell(0, 0, 1);
        }
        turns(all, "all clash", 0, 6, 0, 1, 2, 3, 4, 5);
        all.ear(11);
        turns(all, "none is heard", 0, 1, 0, 0, 0, 0, 0, 0);
    }
}
