/** The widest LAND with all the BELLS and REPORTS that it takes: every call up to its last cell and bell. */
public final class FullTest {
    private static final String TEXT = "g56;010203;908070;112211;304050;667788";
    private static final int[][] BELLS = {{0, 29, 99}, {1, 0, 60}, {2, 14, 35}, {0, 14, 52}, {1, 24, 45}, {2, 5, 98}};
    private static final int[] WINDS = {9, 14, 23, 38};

    private static final BellLand x = new BellLand();
    private static final PlainLand y = new PlainLand();

    public static void main(String[] args) {
        make();
        calls();
        for (int c : new int[] {7, 8, 9, 13, 16, 20, 22, 28, 29, 0}) {
            same("plant", x.plant(c, true), y.plant(c, true));
        }
        calls();
        same("ear", x.ear(47), y.ear(47));
        calls();
        Due.end();
    }

    private static void same(String call, long got, long want) {
        Due.due(call, got, want);
    }

    private static void make() {
        same("sheet", x.sheet(0, 0, TEXT.length()), y.sheet(0, 0, TEXT.length()));
        for (int i = 0; i < TEXT.length(); i++) {
            same("put", x.put(0, i, TEXT.charAt(i)), y.put(0, i, TEXT.charAt(i)));
        }
        same("land", x.land(0, 0, 0, TEXT.length()), y.land(0, 0, 0, TEXT.length()));
        for (int[] b : BELLS) {
            hang();
            same("bell", x.bell(b[0], b[1], b[2]), y.bell(b[0], b[1], b[2]));
        }
        same("sheet", x.sheet(1, 1, 60), y.sheet(1, 1, 60));
        for (int i = 0; i < 60; i++) {
            same("put", x.put(1, i, i * 7 % 40), y.put(1, i, i * 7 % 40));
        }
        for (int k = 0; k < 10; k++) {
            same("report", x.report(29 - k, 4 * k, k % 6, (k + 1) % 6), y.report(29 - k, 4 * k, k % 6, (k + 1) % 6));
        }
    }

    private static void hang() {
        for (int kind = 0; kind <= 2; kind++) {
            for (int weight = 3; weight <= 99; weight += 32) {
                same("hang", x.hang(kind, weight, 14, 0), y.hang(kind, weight, 14, 0));
                same("hang", x.hang(kind, weight, 14, 1), y.hang(kind, weight, 14, 1));
            }
        }
    }

    private static void calls() {
        same("untrue", x.untrue(), y.untrue());
        for (int b = 0; b < 6; b++) {
            for (int what = 0; what <= 2; what++) {
                same("leaves", x.leaves(b, what), y.leaves(b, what));
            }
            same("tithes", x.tithes(b, 1, 1, 0, 60, 0), y.tithes(b, 1, 1, 0, 60, 0));
            same("tithes", x.tithes(b, 1, 1, 0, 60, 1), y.tithes(b, 1, 1, 0, 60, 1));
        }
        for (int wind : WINDS) {
            cells(wind);
            for (int b = 0; b < 6; b++) {
                same("reach", x.reach(b, wind), y.reach(b, wind));
                same("turns", x.turns(wind, b), y.turns(wind, b));
                same("after", x.after(b, wind, 2), y.after(b, wind, 2));
                for (int a = 0; a < 6; a++) {
                    same("together", x.together(a, b, wind), y.together(a, b, wind));
                }
            }
            for (int k = -1; k < 15; k++) {
                same("pacts", x.pacts(wind, k), y.pacts(wind, k));
            }
            same("turns", x.turns(wind, -1), y.turns(wind, -1));
            same("hang", x.hang(0, 9, wind, 0), y.hang(0, 9, wind, 0));
        }
    }

    private static void cells(int wind) {
        for (int c = 0; c < 30; c++) {
            same("whose", x.whose(c, wind), y.whose(c, wind));
            same("cheapest", x.cheapest(c, wind, 0), y.cheapest(c, wind, 0));
            same("cheapest", x.cheapest(c, wind, 1), y.cheapest(c, wind, 1));
            same("ofCell", x.ofCell(c, 3), y.ofCell(c, 3));
            for (int b = 0; b < 6; b++) {
                same("loud", x.loud(b, c, wind, 0), y.loud(b, c, wind, 0));
                same("loud", x.loud(b, c, wind, 1), y.loud(b, c, wind, 1));
                same("wins", x.wins(b, c, wind), y.wins(b, c, wind));
                if (wind == 14 && c % 7 == 1) {
                    same("keep", x.keep(b, c, wind, -1), y.keep(b, c, wind, -1));
                    same("keep", x.keep(b, c, wind, 1), y.keep(b, c, wind, 1));
                }
            }
        }
    }
}
