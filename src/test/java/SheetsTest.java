/** Promises 26 to 36: sheet, lose, put, cell, copy, tell, bless, as, trace, fault, many. */
public final class SheetsTest {
    private static final long LOST = Long.MIN_VALUE;

    public static void main(String[] args) {
        sheets();
        losing();
        putting();
        cells();
        copying();
        copyRefused();
        telling();
        blessing();
        kinds();
        traceWraps();
        faults();
        howMany();
        Due.end();
    }

    private static void fault(BellLand x, String call, long got, long want, int fault) {
        Due.due(call, got, want);
        Due.due(call + ": fault", x.fault(), fault);
    }

    private static void sheets() {
        BellLand x = new BellLand();
        for (int k = 0; k <= 3; k++) {
            Due.due("new row", x.sheet(k, k % 3, 60), 1);
            for (int i = 0; i < 60; i++) {
                Due.due("0 at first", x.cell(k, i, k % 3), 0);
                x.put(k, i, i + 1);
            }
        }
        fault(x, "sheet 4", x.sheet(4, 9, -1), -1, 0);
        fault(x, "sheet -1", x.sheet(-1, 0, 0), -1, 0);
        fault(x, "sort 3, ahead of size", x.sheet(0, 3, -1), -2, 0);
        fault(x, "sort -1", x.sheet(0, -1, 1), -2, 0);
        fault(x, "n 61", x.sheet(0, 0, 61), -2, 0);
        fault(x, "n far", x.sheet(0, 0, Integer.MAX_VALUE), -2, 0);
        fault(x, "n -1", x.sheet(0, 0, -1), -14, 4);
        fault(x, "n far below", x.sheet(0, 0, Integer.MIN_VALUE), -14, 4);
        Due.due("refused: the row stays", x.cell(0, 59, 0), 60);
        Due.due("new row of another sort", x.sheet(0, 2, 2), 1);
        Due.due("0 at first", x.cell(0, 1, 2), 0);
        fault(x, "no third cell", x.cell(0, 2, 2), LOST, 3);
        fault(x, "no bytes any more", x.cell(0, 0, 0), LOST, 2);
        Due.due("row of none", x.sheet(0, 0, 0), 1);
        fault(x, "no cell", x.put(0, 0, 1), -13, 3);
        Due.due("longer again", x.sheet(0, 2, 3), 1);
        Due.due("0 at first", x.cell(0, 2, 2), 0);
        Due.due("the other sheets stay", x.cell(1, 59, 1), 60);
    }

    private static void losing() {
        BellLand x = new BellLand();
        Due.due("nothing", x.lose(0), 0);
        Due.row(x, 0, 0);
        Due.due("a row of none is something", x.lose(0), 1);
        Due.due("nothing", x.lose(0), 0);
        fault(x, "null", x.put(0, 0, 1), -11, 1);
        Due.due("sheet 4", x.lose(4), -1);
        Due.due("sheet -1", x.lose(-1), -1);
        Due.due("it names no faults", x.fault(), 1);
        Due.row(x, 3, 2, 5);
        Due.due("lose", x.lose(3), 1);
        Due.row(x, 3, 2, 6);
        Due.due("a new one", x.cell(3, 0, 2), 6);
    }

    private static void putting() {
        int[] numbers = {0, 1, -1, 127, 128, -128, -129, 255, 256, 32767, 32768, -32768, -32769, 65535, 65536,
            Integer.MAX_VALUE, Integer.MIN_VALUE, 103 + 512};
        BellLand x = new BellLand();
        for (int v : numbers) {
            for (int sort = 0; sort <= 2; sort++) {
                Due.due("sheet", x.sheet(1, sort, 3), 1);
                fault(x, "put " + v, x.put(1, 1, v), 1, 0);
                Due.due("cut " + v + " to " + sort, x.cell(1, 1, sort), sort == 0 ? (byte) v : sort == 1 ? (short) v : v);
                Due.due("beside it", x.cell(1, 0, sort), 0);
                Due.due("beside it", x.cell(1, 2, sort), 0);
            }
        }
        fault(x, "sheet 4", x.put(4, 9, 1), -1, 0);
        fault(x, "sheet -1", x.put(-1, 0, 1), -1, 0);
        fault(x, "nothing, ahead of the index", x.put(0, -1, 1), -11, 1);
        fault(x, "i 3", x.put(1, 3, 1), -13, 3);
        fault(x, "i -1", x.put(1, -1, 1), -13, 3);
        fault(x, "i far", x.put(1, Integer.MAX_VALUE, 1), -13, 3);
        fault(x, "i 59 of 3", x.put(1, 59, 1), -13, 3);
    }

    private static void cells() {
        BellLand x = new BellLand();
        fault(x, "nothing is no cast", x.cell(0, 5, 2), LOST, 1);
        Due.row(x, 0, 1, -300, 300);
        fault(x, "as it is", x.cell(0, 0, 1), -300, 0);
        fault(x, "cast ahead of the index", x.cell(0, 9, 0), LOST, 2);
        fault(x, "cast", x.cell(0, 0, 2), LOST, 2);
        fault(x, "index", x.cell(0, 2, 1), LOST, 3);
        fault(x, "index", x.cell(0, -1, 1), LOST, 3);
        fault(x, "sheet", x.cell(4, 0, 1), LOST, 0);
        x.cell(0, 2, 1);
        fault(x, "sheet", x.cell(-1, 0, 1), LOST, 0);
        x.cell(0, 2, 1);
        fault(x, "sort, ahead of cast", x.cell(0, 0, 3), LOST, 0);
        x.cell(0, 2, 1);
        fault(x, "sort, ahead of null", x.cell(1, 0, -1), LOST, 0);
    }

    private static void copying() {
        BellLand x = new BellLand();
        Due.row(x, 0, 0, 1, 2, 3, 4, 5);
        Due.row(x, 1, 0, 9, 9, 9);
        fault(x, "copy", x.copy(0, 3, 1, 1, 2), 2, 0);
        holds(x, 1, 9, 4, 5);
        holds(x, 0, 1, 2, 3, 4, 5);
        fault(x, "on itself, upwards", x.copy(0, 0, 0, 1, 4), 4, 0);
        holds(x, 0, 1, 1, 2, 3, 4);
        fault(x, "on itself, downwards", x.copy(0, 1, 0, 0, 4), 4, 0);
        holds(x, 0, 1, 2, 3, 4, 4);
        fault(x, "all of it on itself", x.copy(0, 0, 0, 0, 5), 5, 0);
        fault(x, "none", x.copy(0, 5, 1, 3, 0), 0, 0);
        fault(x, "none", x.copy(0, 0, 1, 0, 0), 0, 0);
        holds(x, 0, 1, 2, 3, 4, 4);
        holds(x, 1, 9, 4, 5);
    }

    private static void holds(BellLand x, int k, int... want) {
        for (int i = 0; i < want.length; i++) {
            Due.due("sheet " + k + " at " + i, x.cell(k, i, 0), want[i]);
        }
    }

    private static void copyRefused() {
        BellLand x = new BellLand();
        Due.row(x, 0, 0, 1, 2, 3);
        Due.row(x, 1, 0, 4, 5);
        Due.row(x, 2, 1, 6);
        fault(x, "no such sheet", x.copy(4, 0, 0, 0, 0), -1, 0);
        fault(x, "no such other, ahead of nothing", x.copy(3, 0, 4, 0, 0), -1, 0);
        fault(x, "sheet -1", x.copy(-1, 0, 0, 0, 0), -1, 0);
        fault(x, "other -1", x.copy(0, 0, -1, 0, 0), -1, 0);
        fault(x, "nothing", x.copy(3, -1, 2, 0, 0), -11, 1);
        fault(x, "the other has nothing", x.copy(0, -1, 3, 0, 0), -11, 1);
        fault(x, "nothing to itself", x.copy(3, 0, 3, 0, 0), -11, 1);
        fault(x, "unlike sorts, ahead of the index", x.copy(0, -1, 2, 0, 0), -12, 2);
        int[][] beyond = {{-1, 0, 0}, {0, -1, 0}, {0, 0, -1}, {4, 0, 0}, {0, 3, 0}, {0, 0, 3}, {2, 0, 2}, {0, 1, 2},
            {1, 0, Integer.MAX_VALUE}, {Integer.MAX_VALUE, 0, 1}, {0, Integer.MAX_VALUE, 1},
            {Integer.MIN_VALUE, 0, 1}, {0, 0, Integer.MIN_VALUE}};
        for (int[] w : beyond) {
            fault(x, "index", x.copy(0, w[0], 1, w[1], w[2]), -13, 3);
        }
        holds(x, 0, 1, 2, 3);
        holds(x, 1, 4, 5);
        fault(x, "refused: none", x.copy(4, 0, 0, 0, 0), -1, 0);
    }

    private static BellLand three() {
        BellLand x = Due.landed("g22;00;00");
        x.bell(0, 3, 7);
        x.bell(1, 2, 8);
        x.bell(2, 1, 9);
        return x;
    }

    private static void telling() {
        BellLand x = three();
        Due.due("a bell", x.tell(0), 7);
        Due.due("trace", x.trace(), 1);
        Due.due("a tenor", x.tell(1), 108);
        Due.due("trace", x.trace(), (31 + 2) * 31 + 1);
        x = three();
        Due.due("a great one", x.tell(2), 118);
        Due.due("trace", x.trace(), ((3 * 31 + 2) * 31 + 1) * 31 + 1);
        Due.due("no bell", x.tell(3), -1);
        Due.due("bell -1", x.tell(-1), -1);
        Due.due("refused: trace", x.trace(), ((3 * 31 + 2) * 31 + 1) * 31 + 1);
        x.recast(2, 99);
        Due.due("as it is", x.tell(2), 298);
    }

    private static void blessing() {
        BellLand x = three();
        Due.due("a bell", x.bless(0), 0);
        Due.due("trace", x.trace(), 4);
        Due.due("a tenor", x.bless(1), 1);
        Due.due("trace", x.trace(), 4 * 31 + 4);
        Due.due("a great one", x.bless(2), 60);
        Due.due("trace", x.trace(), (4 * 31 + 4) * 31 + 5);
        Due.due("no bell", x.bless(3), -1);
        Due.due("bell -1", x.bless(-1), -1);
        Due.due("refused: trace", x.trace(), (4 * 31 + 4) * 31 + 5);
        x.bell(0, 0, 1);
        Due.due("its own number", x.bless(3), 3);
    }

    private static void kinds() {
        BellLand x = three();
        for (int b = 0; b <= 2; b++) {
            for (int kind = 0; kind <= 2; kind++) {
                boolean is = b >= kind;
                fault(x, "bell of kind " + b + " as " + kind, x.as(b, kind), is ? 1 : -12, is ? 0 : 2);
            }
        }
        x.as(0, 2);
        fault(x, "no bell", x.as(3, 3), -1, 0);
        x.as(0, 2);
        fault(x, "bell -1", x.as(-1, 0), -1, 0);
        x.as(0, 2);
        fault(x, "kind 3", x.as(0, 3), -2, 0);
        x.as(0, 2);
        fault(x, "kind -1", x.as(2, -1), -2, 0);
        Due.due("no trace", x.trace(), 0);
    }

    private static void traceWraps() {
        BellLand x = three();
        int trace = 0;
        for (int k = 0; k < 20; k++) {
            x.bless(2);
            trace = 31 * trace + 5;
            Due.due("trace", x.trace(), trace);
            x.tell(1);
            trace = 31 * (31 * trace + 2) + 1;
            Due.due("trace", x.trace(), trace);
        }
        x.lose(0);
        Due.due("it stays", x.trace(), trace);
    }

    private static void faults() {
        BellLand x = three();
        Due.due("ahead of any fault", x.fault(), 0);
        x.put(3, 0, 0);
        Due.due("null", x.fault(), 1);
        Due.due("still", x.fault(), 1);
        // None of these names a fault.
        x.ofCell(9, 9);
        x.plant(9, true);
        x.ear(100);
        x.bell(0, 0, 1);
        x.recast(9, 9);
        x.loud(9, 9, 9, 9);
        x.whose(0, 0);
        x.wins(0, 0, 0);
        x.hang(0, 1, 0, 0);
        x.pacts(0, -1);
        x.report(0, 0, 0, 1);
        x.keep(0, 0, 0, -1);
        x.turns(0, 0);
        x.settles(0, 0);
        x.after(0, 0, 9);
        x.lose(2);
        x.tell(0);
        x.bless(0);
        x.trace();
        x.many(9);
        Due.due("it is still the fault of the latest call that names one", x.fault(), 1);
        x.as(0, 0);
        Due.due("it came to none", x.fault(), 0);
        x.as(0, 1);
        Due.due("cast", x.fault(), 2);
        x.sheet(0, 0, 1);
        Due.due("it came to none", x.fault(), 0);
        x.cell(0, 1, 0);
        Due.due("index", x.fault(), 3);
        x.cell(0, 0, 0);
        Due.due("it came to none", x.fault(), 0);
        x.sheet(0, 0, -1);
        Due.due("size", x.fault(), 4);
        x.tithes(0, 0, 0, 0, 1, 0);
        Due.due("it came to none", x.fault(), 0);
        x.sheet(0, 0, -1);
        x.land(0, 0, 0, 1);
        Due.due("a text's fault is none of the machine's", x.fault(), 0);
        x.sheet(0, 0, -1);
        x.copy(0, 0, 0, 0, 1);
        Due.due("it came to none", x.fault(), 0);
        x.sheet(0, 0, -1);
        x.put(0, 0, 1);
        Due.due("it came to none", x.fault(), 0);
    }

    private static void howMany() {
        BellLand x = Due.landed("g45;12345;12345;12345;12345");
        x.bell(0, 0, 1);
        x.bell(0, 0, 1);
        x.plant(0, true);
        x.plant(7, true);
        x.plant(19, true);
        x.report(0, 0, 0, 1);
        x.ear(55);
        int[] want = {20, 4, 5, 2, 3, 1, 55};
        for (int what = 0; what <= 6; what++) {
            Due.due("many(" + what + ")", x.many(what), want[what]);
        }
        Due.due("many(-1)", x.many(-1), -2);
        Due.due("many(7)", x.many(7), -2);
        Due.due("many far", x.many(Integer.MIN_VALUE), -2);
        Due.due("UNKNOWN", BellLand.UNKNOWN, -1);
        Due.due("OUTSIDE", BellLand.OUTSIDE, -2);
        Due.due("STATE", BellLand.STATE, -3);
        Due.due("FULL", BellLand.FULL, -4);
        Due.due("SHARED", BellLand.SHARED, -5);
        Due.due("DEAF", BellLand.DEAF, -6);
        Due.due("NONE", BellLand.NONE, -9);
        Due.due("LOST", BellLand.LOST, LOST);
    }
}
