/** What the tests share: answers held against what is due, and lands made from a text. */
final class Due {
    private static int wrong = 0;
    private static int looked = 0;

    private Due() {}

    static void due(String call, long got, long want) {
        looked++;
        if (got != want) {
            wrong++;
            if (wrong <= 40) {
                System.out.println(call + " answered " + got + ", due is " + want);
            }
        }
    }

    static boolean allWell() {
        return wrong == 0;
    }

    /** Ends a test's main method. */
    static void end() {
        System.out.println(looked + " answers looked at, " + wrong + " wrong");
        if (wrong != 0 || looked == 0) {
            System.exit(1);
        }
    }

    /** Puts a text into SHEET 0 as bytes. */
    static void write(BellLand x, String text) {
        due("sheet for " + text, x.sheet(0, 0, text.length()), 1);
        for (int i = 0; i < text.length(); i++) {
            due("put for " + text, x.put(0, i, text.charAt(i)), 1);
        }
    }

    /** Answers what land answers of a text. */
    static int land(BellLand x, String text) {
        write(x, text);
        return x.land(0, 0, 0, text.length());
    }

    /** A new object with a LAND. */
    static BellLand landed(String text) {
        BellLand x = new BellLand();
        due("land " + text, land(x, text), (text.charAt(1) - '0') * (text.charAt(2) - '0'));
        return x;
    }

    /** Puts winds (or other numbers) into a SHEET of a sort. */
    static void row(BellLand x, int k, int sort, int... numbers) {
        due("sheet " + k, x.sheet(k, sort, numbers.length), 1);
        for (int i = 0; i < numbers.length; i++) {
            due("put " + k, x.put(k, i, numbers[i]), 1);
        }
    }

    /** The whole state that can be asked for without changing it, as one number. */
    static long state(BellLand x) {
        long all = 17;
        for (int what = 0; what <= 6; what++) {
            all = 31 * all + x.many(what);
        }
        for (int c = 0; c < x.many(0); c++) {
            all = 31 * all + 8 * x.ofCell(c, 0) + x.ofCell(c, 2);
        }
        for (int b = 0; b < x.many(3); b++) {
            all = 31 * (31 * (31 * all + x.ofBell(b, 0)) + x.ofBell(b, 1)) + x.ofBell(b, 2);
        }
        return 31 * (31 * all + x.untrue()) + x.trace();
    }
}
