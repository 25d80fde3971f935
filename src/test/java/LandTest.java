/** Promises 1 to 5: a new object, land, ofCell, plant, ear. */
public final class LandTest {
    private static final long LOST = Long.MIN_VALUE;

    public static void main(String[] args) {
        newObject();
        landTaken();
        landRefused();
        firstFaults();
        landMakesAnew();
        landRefusedChangesNothing();
        cells();
        planting();
        ears();
        Due.end();
    }

    private static void newObject() {
        BellLand x = new BellLand();
        for (int what = 0; what <= 6; what++) {
            Due.due("new many(" + what + ")", x.many(what), 0);
        }
        Due.due("new ofCell", x.ofCell(0, 0), -1);
        Due.due("new trace", x.trace(), 0);
        Due.due("new fault", x.fault(), 0);
        for (int k = 0; k <= 3; k++) {
            Due.due("new cell of sheet " + k, x.cell(k, 0, 0), LOST);
            Due.due("its fault", x.fault(), 1);
            Due.due("new lose(" + k + ")", x.lose(k), 0);
        }
    }

    private static void landTaken() {
        for (int high = 2; high <= 5; high++) {
            for (int wide = 2; wide <= 6; wide++) {
                String text = "g" + high + wide + (";" + "098765".substring(0, wide)).repeat(high);
                BellLand x = Due.landed(text);
                Due.due(text + " fault", x.fault(), 0);
                Due.due(text + " cells", x.many(0), high * wide);
                Due.due(text + " high", x.many(1), high);
                Due.due(text + " wide", x.many(2), wide);
                Due.due(text + " last", x.ofCell(high * wide - 1, 0), "098765".charAt(wide - 1) - '0');
            }
        }
        for (int sort = 0; sort <= 2; sort++) {
            BellLand x = new BellLand();
            Due.row(x, 2, sort, 7, 7, 7, 'g', '2', '3', ';', '1', '2', '3', ';', '4', '5', '6', 7);
            Due.due("land from 3 on", x.land(2, sort, 3, 11), 6);
            for (int c = 0; c < 6; c++) {
                Due.due("height " + c, x.ofCell(c, 0), c + 1);
            }
        }
    }

    private static void landRefused() {
        BellLand x = new BellLand();
        Due.due("no such sheet, nor sort", x.land(-1, 9, 0, -1), -1);
        Due.due("sheet 4", x.land(4, 0, 0, 0), -1);
        Due.due("sort 3", x.land(0, 3, 0, 0), -2);
        Due.due("sort -1", x.land(0, -1, 0, 0), -2);
        Due.due("nothing is of every sort", x.land(0, 2, -5, -1), -11);
        Due.due("fault", x.fault(), 1);
        Due.due("sort 3 again", x.land(0, 3, 0, 0), -2);
        Due.due("refused: no fault", x.fault(), 0);
        Due.row(x, 1, 1, 'g', '2', '2');
        Due.due("another sort comes ahead of the size", x.land(1, 0, 0, -1), -12);
        Due.due("fault", x.fault(), 2);
        Due.due("size comes ahead of the index", x.land(1, 1, 99, -1), -14);
        Due.due("fault", x.fault(), 4);
        int[][] beyond = {{0, 4}, {1, 3}, {3, 1}, {4, 0}, {-1, 0}, {-1, 1}, {Integer.MIN_VALUE, 0},
            {1, Integer.MAX_VALUE}, {Integer.MAX_VALUE, Integer.MAX_VALUE}, {Integer.MAX_VALUE, 0}};
        for (int[] two : beyond) {
            Due.due("beyond " + two[0] + ", " + two[1], x.land(1, 1, two[0], two[1]), -13);
            Due.due("fault", x.fault(), 3);
        }
        Due.due("none of them, from behind the last one on", x.land(1, 1, 3, 0), -100);
        Due.due("fault", x.fault(), 0);
        x.land(1, 1, 4, 0);
        Due.due("no such sheet", x.land(7, 1, 0, 0), -1);
        Due.due("refused: no fault", x.fault(), 0);
    }

    private static void firstFaults() {
        String text = "g34;0123;4567;8990";
        for (int n = 0; n < text.length(); n++) {
            Due.due("ends behind " + n, Due.land(new BellLand(), text.substring(0, n)), -100 - n);
            for (char other : "g;x/:1a".toCharArray()) {
                boolean serves = text.charAt(n) == other || n > 3 && text.charAt(n) != ';' && other == '1';
                if (!serves) {
                    String faulty = text.substring(0, n) + other + text.substring(n + 1);
                    Due.due(faulty, Due.land(new BellLand(), faulty), -100 - n);
                }
            }
        }
        Due.due("one code more", Due.land(new BellLand(), text + ";"), -100 - text.length());
        Due.due("two codes more", Due.land(new BellLand(), text + "00"), -100 - text.length());
        for (String high : new String[] {"0", "1", "6", "9"}) {
            Due.due("high " + high, Due.land(new BellLand(), "g" + high + "2;00;00"), -101);
        }
        for (String wide : new String[] {"0", "1", "7", "9"}) {
            Due.due("wide " + wide, Due.land(new BellLand(), "g2" + wide + ";00;00"), -102);
        }
        BellLand x = new BellLand();
        Due.row(x, 0, 2, 'g' + 256, '2', '2', ';', '0', '0', ';', '0', '0');
        Due.due("a code that is g but for its upper bits", x.land(0, 2, 0, 9), -100);
        Due.row(x, 0, 2, 'g', '2', '2', ';', '0', '0', ';', '0', Integer.MIN_VALUE);
        Due.due("a code far below", x.land(0, 2, 0, 9), -108);
        Due.row(x, 0, 0, 0, 'g', '2', 'x');
        Due.due("told from the first code taken on", x.land(0, 0, 1, 3), -102);
    }

    private static BellLand lively() {
        BellLand x = Due.landed("g22;12;34");
        Due.due("ear", x.ear(33), 10);
        Due.due("plant", x.plant(1, true), 1);
        Due.due("bell", x.bell(0, 0, 5), 0);
        Due.due("bell", x.bell(2, 3, 50), 1);
        Due.due("report", x.report(0, 0, 0, 1), 0);
        Due.due("tell", x.tell(0), 5);
        return x;
    }

    private static void landMakesAnew() {
        BellLand x = lively();
        Due.row(x, 3, 1, 77);
        Due.due("land", Due.land(x, "g23;000;111"), 6);
        int[] want = {6, 2, 3, 0, 0, 0, 10};
        for (int what = 0; what <= 6; what++) {
            Due.due("anew many(" + what + ")", x.many(what), want[what]);
        }
        Due.due("anew planted", x.ofCell(1, 2), 0);
        Due.due("anew bells", x.ofCell(0, 3), 0);
        Due.due("no bell", x.ofBell(0, 0), -1);
        Due.due("no reports", x.untrue(), 0);
        Due.due("the trace stays", x.trace(), 1);
        Due.due("the sheets stay", x.cell(3, 0, 1), 77);
        Due.due("the text stays", x.cell(0, 0, 0), 'g');
        Due.due("the first bell is 0 again", x.bell(1, 2, 9), 0);
        Due.due("no woods are left", x.loud(0, 0, 0, 0), 3);
        x.bell(0, 0, 1);
        Due.due("the first report is 0 again", x.report(0, 0, 0, 1), 0);
    }

    private static void landRefusedChangesNothing() {
        BellLand x = lively();
        long state = Due.state(x);
        Due.due("land with a fault", Due.land(x, "g23;000;11"), -110);
        Due.due("a text that is none", Due.land(x, "x"), -100);
        Due.due("index", x.land(0, 0, 0, 2), -13);
        Due.due("sheet", x.land(9, 0, 0, 2), -1);
        Due.due("nothing has changed", Due.state(x), state);
    }

    private static void cells() {
        BellLand x = Due.landed("g23;059;999");
        int[] heights = {0, 5, 9, 9, 9, 9};
        x.plant(4, true);
        x.bell(0, 4, 1);
        x.bell(1, 4, 1);
        x.bell(2, 2, 1);
        for (int c = 0; c < 6; c++) {
            Due.due("height " + c, x.ofCell(c, 0), heights[c]);
            Due.due("tithe " + c, x.ofCell(c, 1), 10 - heights[c]);
            Due.due("planted " + c, x.ofCell(c, 2), c == 4 ? 1 : 0);
            Due.due("bells " + c, x.ofCell(c, 3), c == 4 ? 2 : c == 2 ? 1 : 0);
            Due.due("what -1", x.ofCell(c, -1), -2);
            Due.due("what 4", x.ofCell(c, 4), -2);
        }
        Due.due("cell -1", x.ofCell(-1, 9), -1);
        Due.due("cell 6", x.ofCell(6, 0), -1);
        Due.due("cell far", x.ofCell(Integer.MAX_VALUE, 0), -1);
        Due.due("cell far below", x.ofCell(Integer.MIN_VALUE, 0), -1);
    }

    private static void planting() {
        BellLand x = Due.landed("g23;000;000");
        Due.due("is not planted", x.plant(1, false), 0);
        Due.due("plant", x.plant(1, true), 1);
        Due.due("it is", x.plant(1, true), 0);
        Due.due("many", x.many(4), 1);
        Due.due("last cell", x.plant(5, true), 1);
        Due.due("many", x.many(4), 2);
        Due.due("fell", x.plant(1, false), 1);
        Due.due("felled", x.ofCell(1, 2), 0);
        Due.due("other stays", x.ofCell(5, 2), 1);
        Due.due("cell 6", x.plant(6, true), -1);
        Due.due("cell -1", x.plant(-1, true), -1);
        Due.due("many", x.many(4), 1);
        // Woods that are planted behind the bell, or felled, count as those ahead of it.
        x.bell(0, 0, 30);
        Due.due("open", x.loud(0, 2, 0, 0), 6);
        x.plant(1, true);
        Due.due("woods between", x.loud(0, 2, 0, 0), 3);
        x.plant(1, false);
        Due.due("open again", x.loud(0, 2, 0, 0), 6);
    }

    private static void ears() {
        BellLand x = new BellLand();
        Due.due("outside comes first", x.ear(-1), -2);
        Due.due("no land", x.ear(99), -3);
        Due.due("no land", x.many(6), 0);
        Due.land(x, "g22;00;00");
        Due.due("ear", x.ear(0), 10);
        Due.due("ear", x.ear(99), 0);
        Due.due("ear 100", x.ear(100), -2);
        Due.due("ear -1", x.ear(-1), -2);
        Due.due("ear", x.many(6), 99);
        // 2 by 1 and 1: just heard by an ear of 10, no more by one of 11.
        x.bell(0, 0, 2);
        x.ear(10);
        Due.due("just heard", x.whose(1, 0), 0);
        x.ear(11);
        Due.due("just not heard", x.whose(1, 0), -6);
        x.ear(0);
        Due.due("all is heard", x.whose(3, 0), 0);
    }
}
