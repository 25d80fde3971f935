/** Promises 24 and 25: settles, after. */
public final class RecastingTest {
    public static void main(String[] args) {
        oneBell();
        twoBells();
        rings();
        refused();
        Due.end();
    }

    private static void settles(BellLand x, String call, int wind, int rounds, int ring) {
        Due.due(call + ": rounds", x.settles(wind, 0), rounds);
        Due.due(call + ": ring", x.settles(wind, 1), ring);
    }

    private static void oneBell() {
        // Alone it has 1, 3, 4 cells by 1, 2, 3: so 9, 28, 37, and 1 less for each more.
        BellLand x = Due.landed("g22;00;00");
        x.bell(0, 0, 3);
        settles(x, "nobody would", 0, 1, 1);
        x.recast(0, 5);
        settles(x, "two less, and none", 0, 3, 1);
        int[] down = {5, 4, 3, 3, 3};
        for (int rounds = 0; rounds < down.length; rounds++) {
            Due.due("after " + rounds, x.after(0, 0, rounds), down[rounds]);
        }
        Due.due("after 200", x.after(0, 0, 200), 3);
        Due.due("its weight stays", x.ofBell(0, 2), 5);
        x.recast(0, 1);
        settles(x, "two more, and none", 0, 3, 1);
        Due.due("after 1", x.after(0, 0, 1), 2);
        Due.due("after 2", x.after(0, 0, 2), 3);
        x.recast(0, 99);
        settles(x, "down from 99", 0, 97, 1);
        Due.due("after 95", x.after(0, 0, 95), 4);
        x.ear(99);
        // By 10 it has one cell (0), by 20 three, by 30 four; a cell is worth ten of weight.
        settles(x, "down to 30 only", 0, 70, 1);
        Due.due("after 200", x.after(0, 0, 200), 30);
        x.recast(0, 15);
        settles(x, "down to 10", 0, 6, 1);
        x.recast(0, 9);
        settles(x, "up to 10", 0, 2, 1);
        Due.due("after 1: 0 is more than -8", x.after(0, 0, 1), 10);
        x.recast(0, 8);
        settles(x, "none would be heard: the least", 0, 8, 1);
        Due.due("after 200", x.after(0, 0, 200), 1);
        BellLand y = Due.landed("g56;000000;000000;000000;000000;000000");
        y.bell(0, 0, 98);
        y.ear(25);
        // 2.5 by 99 reaches d 38, by 98 too; d 34 wants 88.
        Due.due("not above 99", y.after(0, 0, 1) <= 99 ? 1 : 0, 1);
    }

    private static void twoBells() {
        // Both in one cell, 3 and 3: shared. One more has all (40 less 4), as it is none (-3), 1 less none (-2).
        BellLand x = Due.landed("g22;00;00");
        x.bell(0, 0, 3);
        x.bell(0, 0, 3);
        Due.due("the first one is above", x.after(0, 0, 1), 4);
        Due.due("then the second one, which it sees as it is by then, at least with 5", x.after(1, 0, 1), 2);
        Due.due("then the first one needs 3", x.after(0, 0, 2), 3);
        settles(x, "the second one gives in", 0, 3, 1);
        Due.due("after 200", x.after(0, 0, 200), 3);
        Due.due("after 200", x.after(1, 0, 200), 1);
        x.recast(1, 4);
        // 3 below 4: it shares with 4 (-4) or has none with 2 (-2): so 2. The other one then has all with 3.
        Due.due("the first one gives in", x.after(0, 0, 1), 2);
        Due.due("the second one has all", x.after(1, 0, 1), 3);
    }

    private static void ring(String text, int[][] bells, int ear, int wind, int rounds, int ring) {
        BellLand x = Due.landed(text);
        PlainLand plain = new PlainLand();
        plain.sheet(0, 0, text.length());
        for (int i = 0; i < text.length(); i++) {
            plain.put(0, i, text.charAt(i));
        }
        plain.land(0, 0, 0, text.length());
        for (int[] bell : bells) {
            x.bell(bell[0], bell[1], bell[2]);
            plain.bell(bell[0], bell[1], bell[2]);
        }
        x.ear(ear);
        plain.ear(ear);
        settles(x, text, wind, rounds, ring);
        int[] some = {0, 1, 2, 3, 10};
        Due.due(text + " after 199", x.after(0, wind, 199), plain.after(0, wind, 199));
        for (int b = 0; b < bells.length; b++) {
            for (int behind : some) {
                Due.due(text + " bell " + b + " after " + behind, x.after(b, wind, behind), plain.after(b, wind, behind));
            }
            if (rounds != -9) {
                Due.due(text + " comes again", x.after(b, wind, rounds), x.after(b, wind, rounds - ring));
            }
        }
        for (int b = 0; b < bells.length; b++) {
            Due.due(text + " weight stays", x.ofBell(b, 2), bells[b][2]);
        }
    }

    private static void rings() {
        ring("g24;3632;7402", new int[][] {{0, 0, 4}}, 23, 21, 2, 1);
        ring("g54;1015;2340;4233;1010;2350", new int[][] {{1, 19, 7}, {2, 4, 5}, {1, 9, 1}}, 11, 29, 8, 2);
        ring("g34;4024;2213;1301",
                new int[][] {{1, 5, 2}, {2, 6, 8}, {1, 2, 7}, {2, 5, 1}, {2, 5, 5}, {0, 9, 6}}, 2, 31, 11, 6);
        ring("g22;11;11", new int[][] {{1, 0, 8}, {1, 1, 7}, {1, 0, 2}, {1, 2, 7}, {1, 2, 3}, {1, 1, 6}}, 24, 24, 22, 16);
        ring("g32;14;53;11", new int[][] {{1, 2, 70}, {0, 2, 25}, {0, 1, 50}, {1, 4, 73}, {1, 3, 63}}, 53, 9, 98, 41);
        ring("g44;3165;5106;1661;2135", new int[][] {{2, 9, 3}, {0, 6, 4}, {0, 1, 6}, {0, 9, 5}}, 15, 23, 195, 2);
        // As late as can be, and once behind that.
        ring("g33;322;022;223", new int[][] {{2, 5, 28}, {0, 7, 51}, {0, 2, 79}, {0, 7, 8}, {0, 3, 16}}, 2, 24, 200, 2);
        ring("g44;1410;1552;4235;3031",
                new int[][] {{1, 9, 39}, {2, 11, 95}, {2, 15, 61}, {2, 11, 59}, {1, 4, 70}}, 4, 39, 200, 41);
        ring("g36;442430;314452;044050",
                new int[][] {{1, 4, 65}, {2, 14, 59}, {0, 14, 66}, {0, 15, 21}, {1, 6, 91}}, 13, 3, -9, -9);
        ring("g44;0110;0110;0010;0011",
                new int[][] {{0, 3, 46}, {0, 6, 3}, {2, 4, 69}, {0, 2, 65}, {2, 14, 73}, {2, 3, 53}}, 5, 18, -9, -9);
    }

    private static void refused() {
        BellLand x = new BellLand();
        Due.due("outside ahead of state", x.settles(40, 0), -2);
        Due.due("outside ahead of state", x.settles(0, 2), -2);
        Due.due("no bells", x.settles(0, 0), -3);
        Due.land(x, "g22;00;00");
        Due.due("no bells", x.settles(39, 1), -3);
        Due.due("no bell", x.after(0, 40, 201), -1);
        x.bell(0, 0, 5);
        Due.due("wind -1", x.settles(-1, 0), -2);
        Due.due("wind 40", x.settles(40, 0), -2);
        Due.due("what -1", x.settles(0, -1), -2);
        Due.due("what 2", x.settles(0, 2), -2);
        Due.due("bell 1", x.after(1, 0, 0), -1);
        Due.due("bell -1", x.after(-1, 0, 0), -1);
        Due.due("wind 40", x.after(0, 40, 0), -2);
        Due.due("wind -1", x.after(0, -1, 0), -2);
        Due.due("rounds -1", x.after(0, 0, -1), -2);
        Due.due("rounds 201", x.after(0, 0, 201), -2);
        Due.due("rounds 200", x.after(0, 0, 200), 3);
    }
}
