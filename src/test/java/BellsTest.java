/** Promises 6 to 11: bell, ofBell, recast, loud, whose, reach. */
public final class BellsTest {
    private static final long LOST = Long.MIN_VALUE;

    public static void main(String[] args) {
        hanging();
        casting();
        loudByDistance();
        loudOverHillsAndWoods();
        loudByTheWayThere();
        loudByWind();
        loudRefused();
        whoseCell();
        reaching();
        Due.end();
    }

    private static void share(BellLand x, String call, int b, int c, int wind, long upper, long lower) {
        Due.due(call + " upper", x.loud(b, c, wind, 0), upper);
        Due.due(call + " lower", x.loud(b, c, wind, 1), lower);
    }

    private static void hanging() {
        BellLand x = Due.landed("g22;00;00");
        Due.due("no such cell comes first", x.bell(3, 4, 0), -1);
        Due.due("cell -1", x.bell(0, -1, 1), -1);
        Due.due("kind -1", x.bell(-1, 0, 1), -2);
        Due.due("kind 3", x.bell(3, 0, 1), -2);
        Due.due("weight 0", x.bell(0, 0, 0), -2);
        Due.due("weight 100", x.bell(0, 0, 100), -2);
        Due.due("none hangs", x.many(3), 0);
        for (int b = 0; b < 6; b++) {
            Due.due("bell " + b, x.bell(b % 3, b / 2, b == 5 ? 99 : 1 + b), b);
        }
        Due.due("full", x.bell(0, 0, 1), -4);
        Due.due("outside comes ahead of full", x.bell(0, 0, 100), -2);
        Due.due("unknown comes ahead of full", x.bell(0, 4, 1), -1);
        for (int b = 0; b < 6; b++) {
            Due.due("kind", x.ofBell(b, 0), b % 3);
            Due.due("cell", x.ofBell(b, 1), b / 2);
            Due.due("weight", x.ofBell(b, 2), b == 5 ? 99 : 1 + b);
        }
        Due.due("what 3", x.ofBell(0, 3), -2);
        Due.due("what -1", x.ofBell(0, -1), -2);
        Due.due("bell 6", x.ofBell(6, 3), -1);
        Due.due("bell -1", x.ofBell(-1, 0), -1);
        Due.due("two in a cell", x.ofCell(0, 3), 2);
        BellLand none = new BellLand();
        Due.due("no land", none.bell(9, 0, 1), -1);
    }

    private static void casting() {
        BellLand x = Due.landed("g22;00;00");
        x.bell(0, 0, 7);
        Due.due("recast", x.recast(0, 99), 7);
        Due.due("recast", x.recast(0, 1), 99);
        Due.due("weight", x.ofBell(0, 2), 1);
        Due.due("loud", x.loud(0, 0, 0, 0), 1);
        Due.due("weight 0", x.recast(0, 0), -2);
        Due.due("weight 100", x.recast(0, 100), -2);
        Due.due("no bell", x.recast(1, 0), -1);
        Due.due("bell -1", x.recast(-1, 5), -1);
        Due.due("weight", x.ofBell(0, 2), 1);
    }

    private static void loudByDistance() {
        BellLand x = Due.landed("g56;000000;000000;000000;000000;000000");
        x.bell(0, 0, 10);
        x.bell(1, 0, 10);
        x.bell(2, 0, 10);
        share(x, "bell where it hangs", 0, 0, 0, 10, 1);
        share(x, "tenor where it hangs", 1, 0, 0, 10, 1);
        share(x, "great one where it hangs", 2, 0, 0, 10, 1);
        share(x, "bell, d 16", 0, 4, 0, 10, 17);
        share(x, "tenor, d 16", 1, 4, 0, 10, 9);
        share(x, "great one, d 16", 2, 4, 0, 10, 9);
        share(x, "bell, d 1", 0, 6, 0, 5, 1);
        share(x, "tenor, d 1", 1, 6, 0, 20, 3);
        share(x, "bell, d 41", 0, 29, 0, 5, 21);
        share(x, "tenor, d 41", 1, 29, 0, 20, 43);
        share(x, "bell, d 8", 0, 14, 0, 10, 9);
        share(x, "tenor, d 8", 1, 14, 0, 2, 1);
    }

    private static void loudOverHillsAndWoods() {
        BellLand x = Due.landed("g25;00900;00000");
        for (int kind = 0; kind <= 2; kind++) {
            x.bell(kind, 0, 10);
        }
        share(x, "bell over a hill", 0, 4, 0, 5, 17);
        share(x, "tenor over a hill", 1, 4, 0, 5, 9);
        share(x, "great one over a hill", 2, 4, 0, 10, 9);
        x.plant(2, true);
        share(x, "bell over a planted hill", 0, 4, 0, 5, 34);
        share(x, "tenor over a planted hill", 1, 4, 0, 5, 18);
        share(x, "great one over a planted hill", 2, 4, 0, 5, 9);
        x.plant(1, true);
        x.plant(3, true);
        share(x, "great one over three woods", 2, 4, 0, 5, 36);
        x.plant(0, true);
        x.plant(4, true);
        share(x, "woods at the ends don't count", 2, 4, 0, 5, 36);
        share(x, "to the hill over a wood", 0, 2, 0, 1, 1);

        BellLand y = Due.landed("g25;30540;00000");
        y.bell(0, 0, 34);
        share(y, "5 and 4 are higher than 3 and 0", 0, 4, 0, 1, 2);
        y = Due.landed("g25;40540;00000");
        y.bell(0, 0, 34);
        share(y, "4 is not higher than 4", 0, 4, 0, 1, 1);
        y = Due.landed("g25;00545;00000");
        y.bell(0, 0, 34);
        share(y, "5 is not higher than 5", 0, 4, 0, 2, 1);
        y = Due.landed("g26;099990;000000");
        y.bell(0, 0, 99);
        for (int c = 1; c <= 4; c++) {
            y.plant(c, true);
        }
        share(y, "four cells, high and planted", 0, 5, 0, 99, 26 * 256);
        share(y, "and against the wind", 0, 5, 39, 99 * 5, 13 * 256 * 19);
    }

    private static void loudByTheWayThere() {
        BellLand x = Due.landed("g23;090;000");
        x.bell(0, 0, 12);
        x.bell(0, 5, 12);
        share(x, "from 0 on the way lies 4", 0, 5, 0, 2, 1);
        share(x, "from 5 on the way lies 1", 1, 0, 0, 1, 1);
        // From row 1, column 4 two rows down, four columns left: 9 (k 1: -1, half a row is one), 14, 19 no more.
        x = Due.landed("g45;00000;00000;00000;00000");
        x.bell(2, 4, 99);
        share(x, "d 10, open", 0, 6, 0, 33, 2);
        x.plant(3, true);
        share(x, "k 1: a third of a row is none, so 3", 0, 6, 0, 33, 4);
        x.plant(7, true);
        share(x, "k 2: two thirds of a row are one, so 7", 0, 6, 0, 33, 8);
        x.plant(2, true);
        x.plant(8, true);
        share(x, "neither 2 nor 8", 0, 6, 0, 33, 8);
        x = Due.landed("g54;0000;0000;0000;0000;0000");
        x.bell(2, 16, 99);
        share(x, "d 17, open", 0, 1, 0, 198, 19);
        x.plant(12, true);
        share(x, "k 1: a quarter of a column is none", 0, 1, 0, 99, 19);
        x.plant(9, true);
        share(x, "k 2: half a column is one", 0, 1, 0, 99, 38);
        x.plant(5, true);
        share(x, "k 3", 0, 1, 0, 99, 76);
    }

    private static void loudByWind() {
        BellLand x = Due.landed("g33;000;000;000");
        x.bell(0, 4, 6);
        int[] to = {1, 5, 7, 3};
        for (int where = 0; where < 4; where++) {
            for (int strong = 0; strong <= 9; strong++) {
                int wind = 10 * where + strong;
                long up = 3L * (10 + strong);
                long common = gcd(up, 10);
                share(x, "with wind " + wind, 0, to[where], wind, up / common, 10 / common);
                common = gcd(30, 10 + strong);
                share(x, "against wind " + wind, 0, to[(where + 2) % 4], wind, 30 / common, (10 + strong) / common);
                share(x, "aside of wind " + wind, 0, to[(where + 1) % 4], wind, 3, 1);
                share(x, "aside of wind " + wind, 0, to[(where + 3) % 4], wind, 3, 1);
                share(x, "where it hangs", 0, 4, wind, 6, 1);
            }
        }
        share(x, "any column, up", 0, 2, 5, 3, 1);
        share(x, "any row, right", 0, 2, 15, 3, 1);
        share(x, "any column, down", 0, 2, 25, 4, 3);
        share(x, "any row, left", 0, 2, 35, 4, 3);
    }

    private static long gcd(long a, long b) {
        return b == 0 ? a : gcd(b, a % b);
    }

    private static void loudRefused() {
        BellLand x = Due.landed("g22;00;00");
        x.bell(0, 0, 1);
        int[][] wrong = {{1, 0, 0, 0}, {-1, 0, 0, 0}, {0, 4, 0, 0}, {0, -1, 0, 0}, {0, 0, 40, 0}, {0, 0, -1, 0},
            {0, 0, 0, 2}, {0, 0, 0, -1}, {9, 9, 99, 9}};
        for (int[] w : wrong) {
            Due.due("loud refused", x.loud(w[0], w[1], w[2], w[3]), LOST);
        }
    }

    private static void whoseCell() {
        BellLand x = Due.landed("g23;000;000");
        Due.due("no bells", x.whose(0, 0), -6);
        Due.due("no such cell", x.whose(6, 40), -1);
        Due.due("cell -1", x.whose(-1, 0), -1);
        Due.due("wind 40", x.whose(0, 40), -2);
        Due.due("wind -1", x.whose(0, -1), -2);
        x.bell(0, 0, 4);
        x.bell(0, 2, 4);
        Due.due("its own", x.whose(0, 0), 0);
        Due.due("its own", x.whose(2, 0), 1);
        Due.due("in the middle", x.whose(1, 0), -5);
        Due.due("in the middle, wind to the right", x.whose(1, 11), 0);
        Due.due("in the middle, wind to the left", x.whose(1, 31), 1);
        Due.due("in the middle, wind down", x.whose(4, 21), -5);
        x.ear(14);
        Due.due("alike, but not heard", x.whose(4, 0), -6);
        Due.due("alike and heard", x.whose(4, 21), -5);
        x.ear(10);
        // 5 by 2 is above 2, twice 4 by 3 is above 5 by 2.
        Due.due("the louder third one", x.bell(0, 1, 5), 2);
        Due.due("is the loudest", x.whose(1, 0), 2);
        Due.due("all alike but two", x.bell(1, 1, 5), 3);
        Due.due("shared by two above two others", x.whose(1, 0), -5);
        Due.due("the tenor is the louder one", x.whose(4, 0), 3);
    }

    private static void reaching() {
        BellLand x = Due.landed("g23;000;000");
        x.bell(0, 0, 4);
        Due.due("alone: but for d 4 (4 by 5) and d 5 (4 by 6)", x.reach(0, 0), 0b011011);
        x.bell(0, 2, 4);
        Due.due("own and shared", x.reach(0, 0), 0b011011);
        Due.due("own and shared", x.reach(1, 0), 0b110110);
        Due.due("by the wind", x.reach(0, 19), 0b011011);
        Due.due("against the wind", x.reach(1, 19), 0b100100);
        x.ear(99);
        Due.due("not heard at all", x.reach(0, 0), 0);
        Due.due("no bell", x.reach(2, 40), -1);
        Due.due("bell -1", x.reach(-1, 0), -1);
        Due.due("wind", x.reach(0, 40), -2);
        Due.due("wind", x.reach(0, -1), -2);
        BellLand wide = Due.landed("g56;000000;000000;000000;000000;000000");
        wide.bell(0, 0, 99);
        Due.due("all thirty", wide.reach(0, 0), (1 << 30) - 1);
    }
}
