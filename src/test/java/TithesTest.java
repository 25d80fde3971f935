/** Promises 12 to 17: tithes, wins, cheapest, hang, together, pacts. */
public final class TithesTest {
    private static final long LOST = Long.MIN_VALUE;

    public static void main(String[] args) {
        tithesOfAYear();
        tithesRefused();
        winning();
        cheapestOne();
        hangingOneMore();
        rungTogether();
        pactsOfPairs();
        Due.end();
    }

    private static void tithe(BellLand x, String call, int b, int i, int n, long upper, long lower) {
        Due.due(call + " upper", x.tithes(b, 1, 2, i, n, 0), upper);
        Due.due(call + " fault", x.fault(), 0);
        Due.due(call + " lower", x.tithes(b, 1, 2, i, n, 1), lower);
    }

    private static void tithesOfAYear() {
        BellLand x = Due.landed("g22;12;33");
        Due.row(x, 1, 2, 0, 19, 39, 5, 0);
        x.bell(0, 0, 99);
        tithe(x, "no day", 0, 0, 0, 0, 1);
        tithe(x, "no day behind the last one", 0, 5, 0, 0, 1);
        tithe(x, "a day", 0, 2, 1, 31, 1);
        tithe(x, "five days", 0, 0, 5, 155, 1);
        x.bell(0, 0, 99);
        tithe(x, "half of a day", 0, 4, 1, 31, 2);
        tithe(x, "half of two days", 1, 0, 2, 31, 1);
        x.bell(2, 0, 99);
        // A tenor is as loud where it hangs, louder elsewhere.
        tithe(x, "a third of a cell", 0, 0, 1, 3, 1);
        tithe(x, "a third of a cell and all others", 2, 0, 1, 25, 1);
        x.bell(1, 0, 99);
        tithe(x, "a quarter of a cell", 0, 0, 3, 27, 4);
        tithe(x, "a quarter, and halves", 3, 0, 1, 9 + 44, 4);
        x.bell(1, 0, 99);
        x.bell(2, 0, 99);
        tithe(x, "a sixth", 1, 0, 1, 3, 2);
        tithe(x, "a sixth and quarters", 5, 0, 1, 7, 1);
        // By the wind: right (or left) of both, one of them gets the middle.
        BellLand y = Due.landed("g23;000;000");
        Due.row(y, 1, 2, 11, 31, 0);
        y.bell(0, 0, 4);
        y.bell(0, 2, 4);
        tithe(y, "to the right", 0, 0, 1, 40, 1);
        tithe(y, "to the left", 0, 1, 1, 20, 1);
        tithe(y, "no wind", 0, 2, 1, 30, 1);
        tithe(y, "all", 1, 0, 3, 90, 1);
        y.ear(99);
        tithe(y, "deaf", 1, 0, 3, 0, 1);
        int[] year = new int[60];
        BellLand z = Due.landed("g56;000000;000000;000000;000000;000000");
        Due.row(z, 1, 2, year);
        z.bell(2, 0, 99);
        tithe(z, "the most", 0, 0, 60, 18000, 1);
        for (int sort = 0; sort <= 2; sort++) {
            Due.row(z, 2, sort, 0, 0);
            Due.due("any sort", z.tithes(0, 2, sort, 1, 1, 0), 300);
        }
    }

    private static void tithesRefused() {
        BellLand x = Due.landed("g22;12;33");
        x.bell(0, 0, 9);
        Due.row(x, 1, 0, 0, 39, 40, -1);
        lost(x, "index", x.tithes(0, 1, 0, 0, 5, 0), 3);
        lost(x, "no bell", x.tithes(1, 1, 0, 0, 1, 0), 0);
        lost(x, "no bell ahead of a fault", x.tithes(-1, 3, 0, 0, 1, 0), 0);
        lost(x, "no sheet", x.tithes(0, 4, 0, 0, 1, 0), 0);
        lost(x, "no sheet", x.tithes(0, -1, 0, 0, 1, 0), 0);
        lost(x, "no sort, ahead of null", x.tithes(0, 3, 3, 0, 1, 0), 0);
        lost(x, "null, no cast", x.tithes(0, 3, 1, -1, -1, 9), 1);
        lost(x, "cast ahead of size", x.tithes(0, 1, 1, 0, -1, 9), 2);
        lost(x, "size ahead of index", x.tithes(0, 1, 0, -1, -1, 9), 4);
        lost(x, "index ahead of which", x.tithes(0, 1, 0, 0, 5, 9), 3);
        lost(x, "index, none taken", x.tithes(0, 1, 0, 5, 0, 0), 3);
        lost(x, "index, far", x.tithes(0, 1, 0, 1, Integer.MAX_VALUE, 0), 3);
        lost(x, "which 2", x.tithes(0, 1, 0, 0, 2, 2), 0);
        lost(x, "which -1", x.tithes(0, 1, 0, 0, 2, -1), 0);
        lost(x, "wind 40", x.tithes(0, 1, 0, 1, 2, 0), 0);
        lost(x, "wind -1", x.tithes(0, 1, 0, 3, 1, 1), 0);
        Due.due("behind all that", x.tithes(0, 1, 0, 0, 2, 1), 1);
    }

    private static void lost(BellLand x, String call, long got, int fault) {
        Due.due(call, got, LOST);
        Due.due(call + ": fault", x.fault(), fault);
    }

    private static void winning() {
        BellLand x = Due.landed("g22;00;00");
        x.bell(0, 0, 10);
        Due.due("heard: 3 by 3", x.wins(0, 3, 0), 3);
        Due.due("heard: 2 by 2", x.wins(0, 1, 0), 2);
        Due.due("heard where it hangs", x.wins(0, 0, 0), 1);
        Due.due("with the wind: 2 by 3 and half more", x.wins(0, 3, 15), 2);
        Due.due("against the wind", x.wins(0, 3, 35), 5);
        x.ear(99);
        Due.due("9.9 heard by 30 by 3", x.wins(0, 3, 0), 30);
        x.ear(0);
        Due.due("all heard", x.wins(0, 3, 0), 1);
        x.ear(10);
        x.bell(0, 3, 10);
        Due.due("31 by 3 above 10", x.wins(0, 3, 0), 31);
        Due.due("4 above 10 by 3", x.wins(0, 0, 0), 4);
        Due.due("11 above 10, as far", x.wins(0, 1, 0), 11);
        x.recast(1, 32);
        Due.due("97 by 3 above 32", x.wins(0, 3, 0), 97);
        x.recast(1, 33);
        Due.due("99 by 3 is as loud as 33", x.wins(0, 3, 0), -9);
        Due.due("its own weight doesn't count", x.wins(1, 3, 0), 4);
        x.recast(0, 99);
        Due.due("weights stay", x.ofBell(1, 2), 33);
        x.ear(99);
        Due.due("by none", x.wins(0, 3, 0), -9);
        Due.due("no bell", x.wins(2, 0, 40), -1);
        Due.due("bell -1", x.wins(-1, 0, 0), -1);
        Due.due("no cell", x.wins(0, 4, 40), -1);
        Due.due("cell -1", x.wins(0, -1, 0), -1);
        Due.due("wind 40", x.wins(0, 0, 40), -2);
        Due.due("wind -1", x.wins(0, 0, -1), -2);
    }

    private static void cheapest(BellLand x, String call, int c, int wind, int bell, int more) {
        Due.due(call + ": bell", x.cheapest(c, wind, 0), bell);
        Due.due(call + ": more", x.cheapest(c, wind, 1), more);
    }

    private static void cheapestOne() {
        BellLand x = Due.landed("g22;00;00");
        cheapest(x, "no bells", 0, 0, -9, -9);
        x.bell(0, 0, 10);
        x.bell(0, 3, 10);
        cheapest(x, "the owner need not become more", 3, 0, 1, 0);
        cheapest(x, "both 1 more: the least of them", 1, 0, 0, 1);
        x.recast(1, 9);
        cheapest(x, "it is the first one's", 1, 0, 0, 0);
        x.recast(0, 8);
        cheapest(x, "it is the second one's", 1, 0, 1, 0);
        x.recast(0, 9);
        x.bell(1, 2, 9);
        // Tenor in 2: 18 by 4 = 4.5 in cell 1 as are 9 by 2; all three need one more.
        cheapest(x, "of three the least", 1, 0, 0, 1);
        x.recast(0, 99);
        x.recast(1, 99);
        cheapest(x, "none can surpass 99 by 2", 1, 0, -9, -9);
        x.recast(0, 98);
        x.recast(1, 98);
        cheapest(x, "98 by 2 is surpassed by 99, of the first one at 1 more", 1, 0, 0, 1);
        x.recast(0, 99);
        x.recast(1, 1);
        cheapest(x, "it is the first one's", 1, 0, 0, 0);
        x.ear(99);
        x.recast(0, 1);
        x.recast(2, 1);
        cheapest(x, "all are far below the ear", 1, 0, 0, 19);
        Due.due("no cell", x.cheapest(4, 40, 0), -1);
        Due.due("cell -1", x.cheapest(-1, 0, 0), -1);
        Due.due("wind 40", x.cheapest(0, 40, 0), -2);
        Due.due("wind -1", x.cheapest(0, -1, 0), -2);
        Due.due("what 2", x.cheapest(0, 0, 2), -2);
        Due.due("what -1", x.cheapest(0, 0, -1), -2);
        BellLand y = Due.landed("g56;000000;000000;000000;000000;000000");
        y.bell(0, 0, 9);
        y.ear(99);
        cheapest(y, "none can", 29, 0, -9, -9);
    }

    private static void hang(BellLand x, String call, int kind, int weight, int wind, int cell, int cells) {
        Due.due(call + ": cell", x.hang(kind, weight, wind, 0), cell);
        Due.due(call + ": cells", x.hang(kind, weight, wind, 1), cells);
    }

    private static void hangingOneMore() {
        BellLand x = new BellLand();
        Due.due("outside ahead of state", x.hang(0, 100, 0, 0), -2);
        Due.due("no land", x.hang(0, 99, 0, 0), -3);
        Due.land(x, "g22;00;00");
        hang(x, "all", 0, 3, 0, 0, 4);
        hang(x, "but for one", 0, 2, 0, 0, 3);
        hang(x, "one", 0, 1, 0, 0, 1);
        hang(x, "with a tenor all", 1, 2, 0, 0, 4);
        hang(x, "upwind: the upper wants more, 2 by 3 and half more", 0, 2, 5, 2, 4);
        x.bell(0, 0, 99);
        hang(x, "none", 0, 1, 0, 0, 0);
        hang(x, "shared ones are none of its own", 0, 99, 0, 1, 2);
        hang(x, "with a tenor shared but where it hangs", 2, 99, 0, 0, 3);
        hang(x, "its own and no more", 0, 50, 0, 1, 1);
        hang(x, "34 above 33", 0, 34, 0, 3, 1);
        Due.due("it does not hang", x.many(3), 1);
        int[][] outside = {{3, 1, 0, 0}, {-1, 1, 0, 0}, {0, 0, 0, 0}, {0, 100, 0, 0}, {0, 1, 40, 0}, {0, 1, -1, 0},
            {0, 1, 0, 2}, {0, 1, 0, -1}};
        for (int[] w : outside) {
            Due.due("outside", x.hang(w[0], w[1], w[2], w[3]), -2);
        }
        for (int b = 1; b < 6; b++) {
            Due.due("five hang: one more may", x.hang(0, 1, 0, 1) >= 0 ? 1 : 0, 1);
            x.bell(0, 1, 1);
        }
        Due.due("full", x.hang(0, 1, 0, 0), -4);
        Due.due("outside ahead of full", x.hang(0, 1, 0, 2), -2);
        // Woods and hills count for the one that would hang, too.
        BellLand y = Due.landed("g26;009000;990000");
        y.plant(3, true);
        y.bell(0, 5, 9);
        PlainLand plain = new PlainLand();
        plain.sheet(0, 0, 17);
        String text = "g26;009000;990000";
        for (int i = 0; i < text.length(); i++) {
            plain.put(0, i, text.charAt(i));
        }
        plain.land(0, 0, 0, 17);
        plain.plant(3, true);
        plain.bell(0, 5, 9);
        for (int kind = 0; kind <= 2; kind++) {
            for (int weight = 1; weight < 40; weight++) {
                hang(y, "over hills and woods", kind, weight, 12, plain.hang(kind, weight, 12, 0),
                        plain.hang(kind, weight, 12, 1));
            }
        }
    }

    private static void rungTogether() {
        BellLand x = Due.landed("g22;00;00");
        x.bell(0, 0, 1);
        x.bell(0, 1, 1);
        // Above: 1 and 1/2 each; below: 1/2 and 1/3.
        Due.due("together", x.together(0, 1, 0), 0b0011);
        Due.due("the other way round", x.together(1, 0, 0), 0b0011);
        x.ear(8);
        Due.due("5 by 6 is heard", x.together(0, 1, 0), 0b1111);
        x.ear(15);
        Due.due("3 by 2 is just heard", x.together(0, 1, 0), 0b0011);
        x.ear(16);
        Due.due("and no more", x.together(0, 1, 0), 0);
        x.ear(10);
        x.bell(0, 2, 1);
        Due.due("a third one where it hangs", x.together(0, 1, 0), 0b0011);
        x.bell(1, 0, 1);
        // The tenor is 1 where it hangs, 2/3 next to that, 1/2 across.
        x.recast(2, 9);
        Due.due("above a third one", x.together(0, 2, 0), 0b1111);
        Due.due("below a third one", x.together(0, 1, 0), 0);
        Due.due("two others", x.together(1, 3, 0), 0);
        x.recast(2, 3);
        Due.due("alike is not above: 3 by 2 and 3 by 2", x.together(0, 1, 0), 0b0010);
        Due.due("they are one", x.together(1, 1, 40), -1);
        Due.due("no bell", x.together(0, 4, 40), -1);
        Due.due("no bell", x.together(4, 0, 0), -1);
        Due.due("bell -1", x.together(-1, 0, 0), -1);
        Due.due("bell -1", x.together(0, -1, 0), -1);
        Due.due("wind 40", x.together(0, 1, 40), -2);
        Due.due("wind -1", x.together(0, 1, -1), -2);
        BellLand y = Due.landed("g22;00;00");
        y.bell(0, 0, 2);
        y.bell(0, 0, 2);
        y.bell(0, 0, 4);
        Due.due("as loud as another one is not above it", y.together(0, 1, 0), 0);
        y.recast(0, 3);
        Due.due("above it", y.together(0, 1, 0), 0b1111);
    }

    private static void pactsOfPairs() {
        BellLand x = Due.landed("g22;00;00");
        Due.due("no bells", x.pacts(0, -1), 0);
        Due.due("no bells", x.pacts(0, 0), -9);
        x.bell(0, 0, 1);
        Due.due("one bell", x.pacts(0, -1), 0);
        x.bell(0, 1, 1);
        Due.due("half of 20 is not more than 10", x.pacts(0, -1), 0);
        BellLand y = Due.landed("g22;00;00");
        y.bell(0, 0, 1);
        y.bell(0, 3, 1);
        Due.due("half of 40 is more than 10", y.pacts(0, -1), 1);
        Due.due("which", y.pacts(0, 0), 1);
        Due.due("no second one", y.pacts(0, 1), -9);
        Due.due("far beyond", y.pacts(0, Integer.MAX_VALUE), -9);
        Due.due("k -2", y.pacts(0, -2), -1);
        Due.due("k far below", y.pacts(0, Integer.MIN_VALUE), -1);
        Due.due("wind comes first", y.pacts(40, -2), -2);
        Due.due("wind -1", y.pacts(-1, 0), -2);
        // Where only one of the two gains there is no pact: 99 and 1.
        y.recast(0, 99);
        Due.due("the great one has all alone", y.pacts(0, -1), 0);
        // Alike in one cell: neither has any of its own, so that any pair gains that is above the rest.
        BellLand z = Due.landed("g22;00;00");
        for (int b = 0; b < 4; b++) {
            z.bell(0, 0, 5);
        }
        int[] pairs = {1, 2, 3, 12, 13, 23};
        Due.due("six pairs", z.pacts(0, -1), 6);
        for (int k = 0; k < 6; k++) {
            Due.due("pair " + k, z.pacts(0, k), pairs[k]);
        }
        Due.due("no seventh", z.pacts(0, 6), -9);
        // Alone 7 and 3; together 14: 7 is not more than 7, though more than 3.
        for (String text : new String[] {"g22;37;79", "g22;73;79"}) {
            BellLand one = Due.landed(text);
            one.bell(0, 0, 1);
            one.bell(0, 1, 1);
            one.ear(8);
            Due.due("together all", one.together(0, 1, 0), 0b1111);
            Due.due("only one of them gains", one.pacts(0, -1), 0);
            Due.due("none", one.pacts(0, 0), -9);
        }
        // Half of what is odd is not cut: 13 alone is less than half of 27.
        BellLand odd = Due.landed("g22;33;47");
        odd.bell(0, 0, 99);
        odd.bell(0, 1, 99);
        // Alone 7 and 6, 7 and 3: 13 and 10; together 23: half of it is 11 and a half, less than 13.
        Due.due("less than the greater one's", odd.pacts(0, -1), 0);
        BellLand even = Due.landed("g22;33;77");
        even.bell(0, 0, 1);
        even.bell(0, 1, 1);
        even.ear(8);
        // Alone 7 each (1 is heard, 1/2 is not); together all: 20, half is 10.
        Due.due("both gain", even.pacts(0, -1), 1);
        BellLand half = Due.landed("g22;33;99");
        half.bell(0, 0, 1);
        half.bell(0, 1, 1);
        half.ear(8);
        // Alone 7 each; together 16: half is 8.
        Due.due("both gain one", half.pacts(0, -1), 1);
        BellLand cut = Due.landed("g22;34;99");
        cut.bell(0, 0, 1);
        cut.bell(0, 1, 1);
        cut.ear(8);
        // Alone 7 and 6; together 15: seven and a half are more than 7, though cut they would not be.
        Due.due("half of an odd tithe", cut.pacts(0, -1), 1);
    }
}
