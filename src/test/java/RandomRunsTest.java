/** Runs of calls, drawn by a fixed rule, on BellLand and on PlainLand: all answers have to be alike. */
public final class RandomRunsTest {
    private long seed;
    private BellLand x;
    private PlainLand y;
    private int calls;
    private String run = "";

    private RandomRunsTest(long firstSeed) {
        seed = firstSeed;
    }

    public static void main(String[] args) {
        int runs = args.length > 0 ? Integer.parseInt(args[0]) : 120;
        int from = args.length > 1 ? Integer.parseInt(args[1]) : 1;
        for (int k = from; k < from + runs && Due.allWell(); k++) {
            new RandomRunsTest(k * 7919L).go(k);
        }
        Due.end();
    }

    private int draw(int n) {
        seed = seed * 6364136223846793005L + 1442695040888963407L;
        return (int) Long.remainderUnsigned(seed >>> 20, n);
    }

    private int between(int from, int to) {
        return from + draw(to - from + 1);
    }

    /** Mostly a number within bounds, now and then one just outside, or far. */
    private int near(int from, int to) {
        int r = draw(40);
        if (r == 0) {
            return from - 1;
        }
        if (r == 1) {
            return to + 1;
        }
        if (r == 2) {
            return draw(2) == 0 ? Integer.MIN_VALUE : Integer.MAX_VALUE;
        }
        return to < from ? from : between(from, to);
    }

    private void same(String call, long got, long want) {
        calls++;
        Due.due(run + " call " + calls + " " + call, got, want);
    }

    private void go(int k) {
        run = "run " + k;
        x = new BellLand();
        y = new PlainLand();
        if (draw(10) > 0) {
            land();
        }
        while (calls < 440 && Due.allWell()) {
            step(draw(40));
        }
    }

    private void put(int k, int i, int v) {
        same("put(" + k + ", " + i + ", " + v + ")", x.put(k, i, v), y.put(k, i, v));
        fault();
    }

    private void fault() {
        same("fault()", x.fault(), y.fault());
    }

    private void sheet(int k, int sort, int n) {
        same("sheet(" + k + ", " + sort + ", " + n + ")", x.sheet(k, sort, n), y.sheet(k, sort, n));
        fault();
    }

    private void land() {
        int size = draw(8);
        int high = size == 0 ? 5 : between(2, size < 3 ? 5 : 3);
        int wide = size == 0 ? 6 : between(2, size < 3 ? 6 : 3);
        StringBuilder text = new StringBuilder("g").append(high).append(wide);
        int steep = between(1, 9);
        for (int r = 0; r < high; r++) {
            text.append(';');
            for (int c = 0; c < wide; c++) {
                text.append(between(0, steep));
            }
        }
        if (draw(6) == 0) {
            text.setCharAt(draw(text.length()), "g0123456789;x".charAt(draw(13)));
        }
        if (draw(8) == 0) {
            text.append('1');
        }
        int n = text.length() - (draw(10) == 0 ? between(1, text.length()) : 0);
        int sort = draw(3);
        int first = draw(3) == 0 ? between(1, 9) : 0;
        sheet(1, sort, first + text.length());
        for (int i = 0; i < text.length(); i++) {
            x.put(1, first + i, text.charAt(i));
            y.put(1, first + i, text.charAt(i));
            calls++;
        }
        same("land " + text + " of " + n, x.land(1, sort, first, n), y.land(1, sort, first, n));
        fault();
        for (int b = draw(4) == 0 ? 6 : between(0, 6); b > 0; b--) {
            hangOne();
        }
    }

    private void hangOne() {
        int kind = near(0, 2);
        int c = near(0, x.many(0) - 1);
        int weight = draw(3) == 0 ? between(1, 9) : near(1, 99);
        same("bell(" + kind + ", " + c + ", " + weight + ")", x.bell(kind, c, weight), y.bell(kind, c, weight));
    }

    private void step(int what) {
        int b = near(0, x.many(3) - 1);
        int a = near(0, x.many(3) - 1);
        int c = near(0, x.many(0) - 1);
        int wind = near(0, 39);
        int two = near(0, 1);
        String arguments = "(b " + b + ", a " + a + ", c " + c + ", wind " + wind + ", two " + two + ")";
        switch (what) {
            case 0 -> {
                if (draw(6) == 0) {
                    land();
                }
            }
            case 1 -> cellOf(c);
            case 2, 3 -> plant(c);
            case 4 -> ear();
            case 5, 6 -> hangOne();
            case 7 -> bellOf(b);
            case 8, 9 -> recast(b);
            case 10, 11 -> same("loud" + arguments, x.loud(b, c, wind, two), y.loud(b, c, wind, two));
            case 12, 13 -> same("whose" + arguments, x.whose(c, wind), y.whose(c, wind));
            case 14 -> same("reach" + arguments, x.reach(b, wind), y.reach(b, wind));
            case 15, 16 -> tithes(b, two);
            case 17 -> same("wins" + arguments, x.wins(b, c, wind), y.wins(b, c, wind));
            case 18 -> same("cheapest" + arguments, x.cheapest(c, wind, two), y.cheapest(c, wind, two));
            case 19 -> hang(wind, two);
            case 20, 21 -> same("together" + arguments, x.together(a, b, wind), y.together(a, b, wind));
            case 22, 23 -> pacts(wind);
            case 24, 25, 26 -> same("report" + arguments, x.report(c, wind, a, b), y.report(c, wind, a, b));
            case 27 -> back();
            case 28 -> same("untrue()", x.untrue(), y.untrue());
            case 29 -> leaves(b);
            case 30 -> keep(b, c, wind);
            case 31 -> turns(wind);
            case 32 -> settles(wind, two);
            case 33 -> after(b, wind);
            case 34 -> bodies(b);
            case 35 -> many();
            default -> sheets();
        }
    }

    private void cellOf(int c) {
        int what = near(0, 3);
        same("ofCell(" + c + ", " + what + ")", x.ofCell(c, what), y.ofCell(c, what));
    }

    private void bellOf(int b) {
        int what = near(0, 2);
        same("ofBell(" + b + ", " + what + ")", x.ofBell(b, what), y.ofBell(b, what));
    }

    private void plant(int c) {
        boolean is = draw(3) > 0;
        same("plant(" + c + ", " + is + ")", x.plant(c, is), y.plant(c, is));
    }

    private void ear() {
        int v = draw(2) == 0 ? near(0, 99) : between(0, 30);
        same("ear(" + v + ")", x.ear(v), y.ear(v));
    }

    private void recast(int b) {
        int weight = near(1, 99);
        same("recast(" + b + ", " + weight + ")", x.recast(b, weight), y.recast(b, weight));
    }

    private void hang(int wind, int two) {
        int kind = near(0, 2);
        int weight = near(1, 99);
        same("hang(" + kind + ", " + weight + ", " + wind + ", " + two + ")",
                x.hang(kind, weight, wind, two), y.hang(kind, weight, wind, two));
    }

    private void pacts(int wind) {
        int k = near(-1, draw(3));
        same("pacts(" + wind + ", " + k + ")", x.pacts(wind, k), y.pacts(wind, k));
    }

    private void back() {
        int k = near(0, draw(4));
        same("back(" + k + ")", x.back(k), y.back(k));
    }

    private void leaves(int b) {
        int what = near(0, 2);
        same("leaves(" + b + ", " + what + ")", x.leaves(b, what), y.leaves(b, what));
    }

    private void keep(int b, int c, int wind) {
        if (x.many(0) > 20 && draw(4) > 0) {
            return;
        }
        for (int q = -1; q <= 2; q++) {
            same("keep(" + b + ", " + c + ", " + wind + ", " + q + ")", x.keep(b, c, wind, q), y.keep(b, c, wind, q));
        }
        int q = near(-1, 2);
        same("keep(" + b + ", " + c + ", " + wind + ", " + q + ")", x.keep(b, c, wind, q), y.keep(b, c, wind, q));
    }

    private void turns(int wind) {
        for (int b = -2; b <= x.many(3); b++) {
            same("turns(" + wind + ", " + b + ")", x.turns(wind, b), y.turns(wind, b));
        }
    }

    private void settles(int wind, int two) {
        if (x.many(0) * x.many(3) > 60 && draw(6) > 0) {
            return;
        }
        same("settles(" + wind + ", " + two + ")", x.settles(wind, two), y.settles(wind, two));
    }

    private void after(int b, int wind) {
        int rounds = draw(4) == 0 ? near(0, 200) : near(0, 12);
        if (x.many(0) * x.many(3) > 60 && rounds > 12) {
            rounds = 4;
        }
        same("after(" + b + ", " + wind + ", " + rounds + ")", x.after(b, wind, rounds), y.after(b, wind, rounds));
    }

    private void bodies(int b) {
        int kind = near(0, 2);
        same("tell(" + b + ")", x.tell(b), y.tell(b));
        same("trace()", x.trace(), y.trace());
        same("bless(" + b + ")", x.bless(b), y.bless(b));
        same("trace()", x.trace(), y.trace());
        same("as(" + b + ", " + kind + ")", x.as(b, kind), y.as(b, kind));
        fault();
    }

    private void many() {
        int what = near(0, 6);
        same("many(" + what + ")", x.many(what), y.many(what));
    }

    private void tithes(int b, int two) {
        int sort = draw(3);
        int n = between(0, 8);
        sheet(2, sort, n);
        for (int i = 0; i < n; i++) {
            put(2, i, draw(30) == 0 ? near(0, 39) : between(0, 39));
        }
        int i = near(0, draw(3));
        int take = draw(3) == 0 ? near(0, n) : Math.max(0, n - Math.max(0, i));
        int as = draw(10) == 0 ? near(0, 2) : sort;
        int k = draw(10) == 0 ? near(0, 3) : 2;
        same("tithes(" + b + ", " + k + ", " + as + ", " + i + ", " + take + ", " + two + ")",
                x.tithes(b, k, as, i, take, two), y.tithes(b, k, as, i, take, two));
        fault();
    }

    private void sheets() {
        int k = near(0, 3);
        int other = draw(2) == 0 ? k : near(0, 3);
        int i = near(0, 12);
        int j = near(0, 12);
        int n = near(0, 12);
        int sort = near(0, 2);
        switch (draw(8)) {
            case 0 -> sheet(k, sort, draw(5) == 0 ? near(0, 60) : between(0, 14));
            case 1 -> {
                if (draw(3) == 0) {
                    same("lose(" + k + ")", x.lose(k), y.lose(k));
                }
            }
            case 2, 3 -> put(k, i, draw(2) == 0 ? draw(300) - 150 : (int) (seed >>> 17));
            case 4 -> same("land(" + k + ", " + sort + ", " + i + ", " + n + ")",
                    x.land(k, sort, i, n), y.land(k, sort, i, n));
            case 5, 6 -> same("copy(" + k + ", " + i + ", " + other + ", " + j + ", " + n + ")",
                    x.copy(k, i, other, j, n), y.copy(k, i, other, j, n));
            default -> { }
        }
        fault();
        same("cell(" + k + ", " + i + ", " + sort + ")", x.cell(k, i, sort), y.cell(k, i, sort));
        fault();
    }
}
