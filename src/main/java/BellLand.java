import java.util.Arrays;

/** Land told in a text, bells hung in its cells, and what is heard of them where. */
public final class BellLand {
    public static final int UNKNOWN = -1, OUTSIDE = -2, STATE = -3, FULL = -4, SHARED = -5, DEAF = -6, NONE = -9;
    public static final long LOST = Long.MIN_VALUE;

    private static final int NULL = 1, CAST = 2, INDEX = 3, SIZE = 4;
    private static final int TENOR = 1, GREAT = 2;
    private static final int MOST_HIGH = 5, MOST_WIDE = 6, MOST_CELLS = MOST_HIGH * MOST_WIDE;
    private static final int MOST_BELLS = 6, MOST_WEIGHT = 99, MOST_WIND = 39, MOST_EAR = 99;
    private static final int MOST_REPORTS = 10, MOST_PLANTED = 3, MOST_ROUNDS = 200;
    private static final int MOST_SHEETS = 4, MOST_NUMBERS = 60;
    private static final int NEW_EAR = 10, MOST_TITHE = 10;
    private static final int NOBODY = -1;
    /** A TITHE is told out in sixtieths: 1 to 6 BELLS that share it have a whole number of them. */
    private static final int PARTS = 60;

    private final Ground ground;
    private final Bells bells;
    private final Air air;
    private final Reports reports;
    private final Woods woods;
    private final Ringing ringing;
    private final Foundry foundry;
    private final Sheet[] sheets;
    private int fault;
    private int trace;

    public BellLand() {
        ground = new Ground();
        bells = new Bells();
        air = new Air(ground, bells);
        reports = new Reports(bells, air);
        woods = new Woods(ground, bells, air);
        ringing = new Ringing(bells, air);
        foundry = new Foundry(bells, air);
        sheets = new Sheet[MOST_SHEETS];
        for (int k = 0; k < MOST_SHEETS; k++) {
            sheets[k] = new Sheet();
        }
    }

    // ---- 1 land

    public int land(int sheet, int sort, int i, int n) {
        fault = 0;
        if (!isSheet(sheet)) {
            return UNKNOWN;
        }
        if (!isSort(sort)) {
            return OUTSIDE;
        }
        Sheet text = sheets[sheet];
        fault = text.faultOfRow(sort, i, n);
        if (fault != 0) {
            return -10 - fault;
        }
        int place = ground.firstFault(text.numbers, i, n);
        if (place != NONE) {
            return -100 - place;
        }
        ground.take(text.numbers, i);
        bells.count = 0;
        reports.count = 0;
        air.ear = NEW_EAR;
        return ground.cells;
    }

    public int ofCell(int c, int what) {
        if (!isCell(c)) {
            return UNKNOWN;
        }
        switch (what) {
            case 0:
                return ground.height[c];
            case 1:
                return ground.titheOf(c);
            case 2:
                return ground.isPlanted(c) ? 1 : 0;
            case 3:
                return bells.howManyIn(c);
            default:
                return OUTSIDE;
        }
    }

    public int plant(int c, boolean is) {
        if (!isCell(c)) {
            return UNKNOWN;
        }
        if (ground.isPlanted(c) == is) {
            return 0;
        }
        ground.planted ^= 1 << c;
        air.carryAll();
        return 1;
    }

    public int ear(int v) {
        if (v < 0 || v > MOST_EAR) {
            return OUTSIDE;
        }
        if (ground.cells == 0) {
            return STATE;
        }
        int was = air.ear;
        air.ear = v;
        return was;
    }

    // ---- 2 bells

    public int bell(int kind, int c, int weight) {
        if (!isCell(c)) {
            return UNKNOWN;
        }
        if (!isKind(kind) || !isWeight(weight)) {
            return OUTSIDE;
        }
        if (bells.count >= MOST_BELLS) {
            return FULL;
        }
        int b = bells.add(kind, c, weight);
        air.carry(b);
        return b;
    }

    public int ofBell(int b, int what) {
        if (!isBell(b)) {
            return UNKNOWN;
        }
        switch (what) {
            case 0:
                return bells.kind[b];
            case 1:
                return bells.cell[b];
            case 2:
                return bells.weight[b];
            default:
                return OUTSIDE;
        }
    }

    public int recast(int b, int weight) {
        if (!isBell(b)) {
            return UNKNOWN;
        }
        if (!isWeight(weight)) {
            return OUTSIDE;
        }
        int was = bells.weight[b];
        bells.weight[b] = weight;
        return was;
    }

    public long loud(int b, int c, int wind, int which) {
        if (!isBell(b) || !isCell(c) || !isWind(wind) || !isOneOfTwo(which)) {
            return LOST;
        }
        return share(bells.weight[b] * air.unitBy(b, c, wind), Air.grainsOfOne(wind), which);
    }

    public int whose(int c, int wind) {
        if (!isCell(c)) {
            return UNKNOWN;
        }
        if (!isWind(wind)) {
            return OUTSIDE;
        }
        air.blow(wind);
        int loudest = air.loudestIn(c);
        for (int b = 0; b < bells.count; b++) {
            if (loudest == 1 << b) {
                return b;
            }
        }
        return loudest == 0 ? DEAF : SHARED;
    }

    public int reach(int b, int wind) {
        if (!isBell(b)) {
            return UNKNOWN;
        }
        if (!isWind(wind)) {
            return OUTSIDE;
        }
        air.blow(wind);
        int set = 0;
        for (int c = 0; c < ground.cells; c++) {
            set |= (air.loudestIn(c) >> b & 1) << c;
        }
        return set;
    }

    // ---- 3 tithes, wins

    public long tithes(int b, int sheet, int sort, int i, int n, int which) {
        fault = 0;
        if (!isBell(b) || !isSheet(sheet) || !isSort(sort)) {
            return LOST;
        }
        Sheet winds = sheets[sheet];
        fault = winds.faultOfRow(sort, i, n);
        if (fault != 0 || !isOneOfTwo(which)) {
            return LOST;
        }
        for (int day = i; day < i + n; day++) {
            if (!isWind(winds.numbers[day])) {
                return LOST;
            }
        }
        long parts = 0;
        for (int day = i; day < i + n; day++) {
            air.blow(winds.numbers[day]);
            parts += partsOfTithe(b);
        }
        return share(parts, PARTS, which);
    }

    public int wins(int b, int c, int wind) {
        if (!isBell(b) || !isCell(c)) {
            return UNKNOWN;
        }
        if (!isWind(wind)) {
            return OUTSIDE;
        }
        air.blow(wind);
        return air.leastToOwn(b, c);
    }

    public int cheapest(int c, int wind, int what) {
        if (!isCell(c)) {
            return UNKNOWN;
        }
        if (!isWind(wind) || !isOneOfTwo(what)) {
            return OUTSIDE;
        }
        air.blow(wind);
        int best = NONE;
        int least = NONE;
        for (int b = 0; b < bells.count; b++) {
            int weight = air.leastToOwn(b, c);
            int more = Math.max(0, weight - bells.weight[b]);
            if (weight != NONE && (best == NONE || more < least)) {
                best = b;
                least = more;
            }
        }
        return what == 0 ? best : least;
    }

    public int hang(int kind, int weight, int wind, int what) {
        if (!isKind(kind) || !isWeight(weight) || !isWind(wind) || !isOneOfTwo(what)) {
            return OUTSIDE;
        }
        if (ground.cells == 0) {
            return STATE;
        }
        if (bells.count >= MOST_BELLS) {
            return FULL;
        }
        air.blow(wind);
        air.setBars(bells.weight, NOBODY);
        int best = 0;
        int most = -1;
        for (int c = 0; c < ground.cells; c++) {
            int own = air.ownOfNewIn(c, kind, weight, wind);
            if (own > most) {
                best = c;
                most = own;
            }
        }
        return what == 0 ? best : most;
    }

    public int together(int a, int b, int wind) {
        if (!isBell(a) || !isBell(b) || a == b) {
            return UNKNOWN;
        }
        if (!isWind(wind)) {
            return OUTSIDE;
        }
        air.blow(wind);
        return air.ownOfBoth(a, b);
    }

    public int pacts(int wind, int k) {
        if (!isWind(wind)) {
            return OUTSIDE;
        }
        if (k < -1) {
            return UNKNOWN;
        }
        air.blow(wind);
        int found = 0;
        for (int a = 0; a < bells.count; a++) {
            for (int b = a + 1; b < bells.count; b++) {
                if (!isPact(a, b)) {
                    continue;
                }
                if (found == k) {
                    return 10 * a + b;
                }
                found++;
            }
        }
        return k == -1 ? found : NONE;
    }

    // ---- 4 reports, woods, turns

    public int report(int c, int wind, int louder, int than) {
        if (!isCell(c) || !isBell(louder) || !isBell(than) || louder == than) {
            return UNKNOWN;
        }
        if (!isWind(wind)) {
            return OUTSIDE;
        }
        if (reports.count >= MOST_REPORTS) {
            return FULL;
        }
        return reports.add(c, wind, louder, than);
    }

    public int back(int k) {
        if (k < 0 || k > reports.count) {
            return OUTSIDE;
        }
        reports.count -= k;
        return reports.count;
    }

    public int untrue() {
        int set = 0;
        for (int k = 0; k < reports.count; k++) {
            if (!reports.isSo(k)) {
                set |= 1 << k;
            }
        }
        return set;
    }

    public int leaves(int b, int what) {
        if (!isBell(b)) {
            return UNKNOWN;
        }
        if (what < 0 || what > 2) {
            return OUTSIDE;
        }
        int howMany = 0;
        int least = NONE;
        int greatest = NONE;
        for (int weight = 1; weight <= MOST_WEIGHT; weight++) {
            if (reports.allowWeight(b, weight)) {
                howMany++;
                least = least == NONE ? weight : least;
                greatest = weight;
            }
        }
        if (what == 0) {
            return howMany;
        }
        return what == 1 ? least : greatest;
    }

    public int keep(int b, int c, int wind, int q) {
        if (!isBell(b) || !isCell(c)) {
            return UNKNOWN;
        }
        if (!isWind(wind)) {
            return OUTSIDE;
        }
        if (q < -1 || q >= MOST_PLANTED) {
            return UNKNOWN;
        }
        air.blow(wind);
        int set = woods.fewestToKeep(b, c);
        if (set == NONE) {
            return NONE;
        }
        return q == -1 ? Integer.bitCount(set) : memberOf(set, q);
    }

    public int turns(int wind, int b) {
        if (!isWind(wind)) {
            return OUTSIDE;
        }
        if (b != -1 && !isBell(b)) {
            return UNKNOWN;
        }
        air.blow(wind);
        int fewest = ringing.fewest();
        return b == -1 ? fewest : ringing.turn[b];
    }

    // ---- 5 recasting

    public int settles(int wind, int what) {
        if (!isWind(wind) || !isOneOfTwo(what)) {
            return OUTSIDE;
        }
        if (bells.count == 0) {
            return STATE;
        }
        air.blow(wind);
        foundry.goUntilRepeated();
        return what == 0 ? foundry.rounds : foundry.ring;
    }

    public int after(int b, int wind, int rounds) {
        if (!isBell(b)) {
            return UNKNOWN;
        }
        if (!isWind(wind) || rounds < 0 || rounds > MOST_ROUNDS) {
            return OUTSIDE;
        }
        air.blow(wind);
        foundry.go(rounds);
        return foundry.weight[b];
    }

    // ---- 6 sheets, parts

    public int sheet(int k, int sort, int n) {
        fault = 0;
        if (!isSheet(k)) {
            return UNKNOWN;
        }
        if (!isSort(sort) || n > MOST_NUMBERS) {
            return OUTSIDE;
        }
        if (n < 0) {
            return faulty(SIZE);
        }
        sheets[k].renew(sort, n);
        return 1;
    }

    public int lose(int k) {
        if (!isSheet(k)) {
            return UNKNOWN;
        }
        Sheet lost = sheets[k];
        if (!lost.isThere) {
            return 0;
        }
        lost.isThere = false;
        return 1;
    }

    public int put(int k, int i, int v) {
        fault = 0;
        if (!isSheet(k)) {
            return UNKNOWN;
        }
        Sheet to = sheets[k];
        if (!to.isThere) {
            return faulty(NULL);
        }
        if (!to.hasNumber(i)) {
            return faulty(INDEX);
        }
        to.numbers[i] = to.cut(v);
        return 1;
    }

    public long cell(int k, int i, int sort) {
        fault = 0;
        if (!isSheet(k) || !isSort(sort)) {
            return LOST;
        }
        Sheet from = sheets[k];
        fault = from.faultOfSort(sort);
        if (fault == 0 && !from.hasNumber(i)) {
            fault = INDEX;
        }
        return fault == 0 ? from.numbers[i] : LOST;
    }

    public int copy(int k, int i, int other, int j, int n) {
        fault = 0;
        if (!isSheet(k) || !isSheet(other)) {
            return UNKNOWN;
        }
        Sheet from = sheets[k];
        Sheet to = sheets[other];
        if (!from.isThere || !to.isThere) {
            return faulty(NULL);
        }
        if (from.sort != to.sort) {
            return faulty(CAST);
        }
        if (!from.hasNumbers(i, n) || !to.hasNumbers(j, n)) {
            return faulty(INDEX);
        }
        System.arraycopy(from.numbers, i, to.numbers, j, n);
        return n;
    }

    public int tell(int b) {
        if (!isBell(b)) {
            return UNKNOWN;
        }
        if (bells.kind[b] == GREAT) {
            return greatBody(b);
        }
        return bells.kind[b] == TENOR ? tenorBody(b) : bellBody(b);
    }

    public int bless(int b) {
        if (!isBell(b)) {
            return UNKNOWN;
        }
        return bells.kind[b] == GREAT ? greatBlessing() : lentBody(b);
    }

    public int as(int b, int kind) {
        fault = 0;
        if (!isBell(b)) {
            return UNKNOWN;
        }
        if (!isKind(kind)) {
            return OUTSIDE;
        }
        // Kinds are numbered so that each is also one of all the kinds below it.
        return bells.kind[b] < kind ? faulty(CAST) : 1;
    }

    public int trace() {
        return trace;
    }

    public int fault() {
        return fault;
    }

    public int many(int what) {
        switch (what) {
            case 0:
                return ground.cells;
            case 1:
                return ground.high;
            case 2:
                return ground.wide;
            case 3:
                return bells.count;
            case 4:
                return Integer.bitCount(ground.planted);
            case 5:
                return reports.count;
            case 6:
                return air.ear;
            default:
                return OUTSIDE;
        }
    }

    // ---- what is there

    private boolean isCell(int c) {
        return c >= 0 && c < ground.cells;
    }

    private boolean isBell(int b) {
        return b >= 0 && b < bells.count;
    }

    private static boolean isSheet(int k) {
        return k >= 0 && k < MOST_SHEETS;
    }

    private static boolean isSort(int sort) {
        return sort >= 0 && sort <= 2;
    }

    private static boolean isKind(int kind) {
        return kind >= 0 && kind <= GREAT;
    }

    private static boolean isWeight(int weight) {
        return weight >= 1 && weight <= MOST_WEIGHT;
    }

    private static boolean isWind(int wind) {
        return wind >= 0 && wind <= MOST_WIND;
    }

    private static boolean isOneOfTwo(int what) {
        return what == 0 || what == 1;
    }

    // ---- answers

    private int faulty(int number) {
        fault = number;
        return -10 - number;
    }

    /** The upper (which 0) or lower number of a share in least terms. */
    private static long share(long upper, long lower, int which) {
        long common = greatestCommon(upper, lower);
        return (which == 0 ? upper : lower) / common;
    }

    private static long greatestCommon(long a, long b) {
        long large = a;
        long small = b;
        // Euclid's steps for two longs are fewer than a hundred.
        for (int step = 0; step < 100 && small != 0; step++) {
            long rest = large % small;
            large = small;
            small = rest;
        }
        return Math.max(1, large);
    }

    /** The q-th member of a set, the least being the 0th; NONE, if it has fewer. */
    private static int memberOf(int set, int q) {
        int ahead = 0;
        for (int c = 0; c < MOST_CELLS; c++) {
            if ((set >> c & 1) == 0) {
                continue;
            }
            if (ahead == q) {
                return c;
            }
            ahead++;
        }
        return NONE;
    }

    /** What a BELL has of TITHE on a day, in PARTS of 1. */
    private int partsOfTithe(int b) {
        int parts = 0;
        for (int c = 0; c < ground.cells; c++) {
            int loudest = air.loudestIn(c);
            if ((loudest >> b & 1) == 1) {
                parts += ground.titheOf(c) * PARTS / Integer.bitCount(loudest);
            }
        }
        return parts;
    }

    private boolean isPact(int a, int b) {
        int both = ground.titheOfSet(air.ownOfBoth(a, b));
        return both > 2 * ground.titheOfSet(air.ownOf(a)) && both > 2 * ground.titheOfSet(air.ownOf(b));
    }

    // ---- bodies

    private void mark(int body) {
        trace = 31 * trace + body;
    }

    private int bellBody(int b) {
        mark(1);
        return bells.weight[b];
    }

    private int tenorBody(int b) {
        mark(2);
        return bellBody(b) + 100;
    }

    private int greatBody(int b) {
        mark(3);
        return tenorBody(b) + bellBody(b);
    }

    private int lentBody(int b) {
        mark(4);
        return b;
    }

    private int greatBlessing() {
        mark(5);
        return 60;
    }

    /** A SHEET: the same row of numbers serves for all that it is told to have, one after the other. */
    private static final class Sheet {
        final int[] numbers;
        boolean isThere;
        int sort;
        int size;

        Sheet() {
            numbers = new int[MOST_NUMBERS];
        }

        void renew(int newSort, int newSize) {
            isThere = true;
            sort = newSort;
            size = newSize;
            Arrays.fill(numbers, 0);
        }

        int cut(int v) {
            if (sort == 0) {
                return (byte) v;
            }
            return sort == 1 ? (short) v : v;
        }

        boolean hasNumber(int i) {
            return i >= 0 && i < size;
        }

        boolean hasNumbers(int from, int n) {
            // "size - from" can't run over, as "from + n" could.
            return n >= 0 && from >= 0 && from <= size && n <= size - from;
        }

        /** The fault of taking it as a row of a sort: nothing is of every sort, but it is no row. */
        int faultOfSort(int asSort) {
            if (!isThere) {
                return NULL;
            }
            return sort == asSort ? 0 : CAST;
        }

        int faultOfRow(int asSort, int from, int n) {
            int found = faultOfSort(asSort);
            if (found != 0) {
                return found;
            }
            if (n < 0) {
                return SIZE;
            }
            return hasNumbers(from, n) ? 0 : INDEX;
        }
    }

    /** The LAND: its CELLS, how high they are, which are planted. Sets of cells are bits. */
    private static final class Ground {
        static final int G = 103, SEMICOLON = 59, ZERO = 48;

        int high;
        int wide;
        int cells;
        int planted;
        final int[] height;
        final int[] row;
        final int[] column;
        /** By height: the cells that are higher. */
        final int[] higher;

        Ground() {
            height = new int[MOST_CELLS];
            row = new int[MOST_CELLS];
            column = new int[MOST_CELLS];
            higher = new int[10];
        }

        /** The FIRST FAULT of n codes, told from where they begin; NONE, if they are a TEXT. */
        int firstFault(int[] codes, int from, int n) {
            int newHigh = 0;
            int line = 1;
            for (int place = 0; place < n; place++) {
                int code = codes[from + place];
                int digit = code - ZERO;
                boolean goesOn;
                if (place == 0) {
                    goesOn = code == G;
                } else if (place == 1) {
                    goesOn = digit >= 2 && digit <= MOST_HIGH;
                    newHigh = digit;
                } else if (place == 2) {
                    goesOn = digit >= 2 && digit <= MOST_WIDE;
                    line = 1 + digit;
                } else if (place >= 3 + newHigh * line) {
                    goesOn = false;
                } else if ((place - 3) % line == 0) {
                    goesOn = code == SEMICOLON;
                } else {
                    goesOn = digit >= 0 && digit <= 9;
                }
                if (!goesOn) {
                    return place;
                }
            }
            return n > 2 && n == 3 + newHigh * line ? NONE : n;
        }

        /** Takes a TEXT without fault. */
        void take(int[] codes, int from) {
            high = codes[from + 1] - ZERO;
            wide = codes[from + 2] - ZERO;
            cells = high * wide;
            planted = 0;
            Arrays.fill(higher, 0);
            for (int r = 0; r < high; r++) {
                for (int k = 0; k < wide; k++) {
                    int c = r * wide + k;
                    row[c] = r;
                    column[c] = k;
                    height[c] = codes[from + 4 + r * (wide + 1) + k] - ZERO;
                    for (int lower = 0; lower < height[c]; lower++) {
                        higher[lower] |= 1 << c;
                    }
                }
            }
        }

        boolean isPlanted(int c) {
            return (planted >> c & 1) == 1;
        }

        int titheOf(int c) {
            return MOST_TITHE - height[c];
        }

        int titheOfSet(int set) {
            int sum = 0;
            for (int c = 0; c < cells; c++) {
                if ((set >> c & 1) == 1) {
                    sum += titheOf(c);
                }
            }
            return sum;
        }

        /** Rows apart squared and columns apart squared. */
        int apart(int from, int to) {
            int rows = row[to] - row[from];
            int columns = column[to] - column[from];
            return rows * rows + columns * columns;
        }

        /** The set of CELLS that lie BETWEEN a BELL's and another one; not the same the other way round. */
        int between(int from, int to) {
            int rows = row[to] - row[from];
            int columns = column[to] - column[from];
            int n = Math.max(Math.abs(rows), Math.abs(columns));
            int set = 0;
            for (int k = 1; k < n; k++) {
                int r = row[from] + stepsOn(k, rows, n);
                int c = column[from] + stepsOn(k, columns, n);
                set |= 1 << r * wide + c;
            }
            return set;
        }

        private static int stepsOn(int k, int all, int n) {
            int twice = 2 * k * all;
            return (twice < 0 ? twice - n : twice + n) / (2 * n);
        }

        /** How many hills of a way are higher than both its ends. */
        int hillsOn(int way, int from, int to) {
            return Integer.bitCount(way & higher[Math.max(height[from], height[to])]);
        }

        /** Above 0, if a CELL lies where the WIND blows to; below 0, if the other way. */
        int downwind(int from, int to, int wind) {
            switch (wind / 10) {
                case 0:
                    return row[from] - row[to];
                case 1:
                    return column[to] - column[from];
                case 2:
                    return row[to] - row[from];
                default:
                    return column[from] - column[to];
            }
        }
    }

    /** The BELLS that hang. */
    private static final class Bells {
        int count;
        final int[] kind;
        final int[] cell;
        final int[] weight;

        Bells() {
            kind = new int[MOST_BELLS];
            cell = new int[MOST_BELLS];
            weight = new int[MOST_BELLS];
        }

        int add(int newKind, int c, int newWeight) {
            int b = count;
            kind[b] = newKind;
            cell[b] = c;
            weight[b] = newWeight;
            count = b + 1;
            return b;
        }

        int howManyIn(int c) {
            int found = 0;
            for (int b = 0; b < count; b++) {
                if (cell[b] == c) {
                    found++;
                }
            }
            return found;
        }

        int cellsWithBells() {
            int set = 0;
            for (int b = 0; b < count; b++) {
                set |= 1 << cell[b];
            }
            return set;
        }
    }

    /**
     * How LOUD the BELLS are, exactly: counted in grains so fine that every LOUD by a wind is a whole
     * number of them. Then louds by one wind are compared, added and halved as plain longs. The loudest
     * one possible is some 1.4e18 grains, so that two of them still fit in a long.
     */
    private static final class Air {
        /**
         * It can be divided by 1 and d and by 2 and d for every distance in the widest LAND, and halved
         * eight times after that: at most four cells lie between two, each of them high and planted.
         */
        static final long CALM_ONE = 59579996636160L;

        final Ground ground;
        final Bells bells;
        int ear;
        /** By bell and cell: how loud it were there without wind, if its WEIGHT were 1. */
        final long[] calm;
        /** The same by the wind that blew last. */
        final long[] unit;
        /** What is HEARD is no less than this by the wind that blew last. */
        long faint;
        /** By cell: what must be surpassed to own it, as setBars found. */
        final long[] bars;

        Air(Ground itsGround, Bells itsBells) {
            ground = itsGround;
            bells = itsBells;
            calm = new long[MOST_BELLS * MOST_CELLS];
            unit = new long[MOST_BELLS * MOST_CELLS];
            bars = new long[MOST_CELLS];
        }

        /** How many grains a LOUD of 1 has by a wind. */
        static long grainsOfOne(int wind) {
            return CALM_ONE * 10 * strength(wind);
        }

        private static int strength(int wind) {
            return 10 + wind % 10;
        }

        /** Finds anew how a bell is carried everywhere: it hangs there newly, or the woods are others. */
        void carry(int b) {
            for (int c = 0; c < ground.cells; c++) {
                calm[b * MOST_CELLS + c] = calmUnit(bells.kind[b], bells.cell[b], c);
            }
        }

        void carryAll() {
            for (int b = 0; b < bells.count; b++) {
                carry(b);
            }
        }

        private long calmUnit(int kind, int from, int to) {
            int way = ground.between(from, to);
            int halvings = Integer.bitCount(way & ground.planted);
            if (kind != GREAT) {
                halvings += ground.hillsOn(way, from, to);
            }
            int d = ground.apart(from, to);
            long open = kind < TENOR ? CALM_ONE / (1 + d) : CALM_ONE / (2 + d) * 2;
            return open >> halvings;
        }

        /** Grains without wind become grains by a wind, which are finer by 10 times its strength. */
        private long blown(long still, int from, int to, int wind) {
            int side = ground.downwind(from, to, wind);
            int strong = strength(wind);
            if (side > 0) {
                return still * strong * strong;
            }
            return side < 0 ? still * 100 : still * 10 * strong;
        }

        long unitBy(int b, int c, int wind) {
            return blown(calm[b * MOST_CELLS + c], bells.cell[b], c, wind);
        }

        /** From here on all is told by this wind. */
        void blow(int wind) {
            for (int b = 0; b < bells.count; b++) {
                for (int c = 0; c < ground.cells; c++) {
                    unit[b * MOST_CELLS + c] = unitBy(b, c, wind);
                }
            }
            faint = ear * CALM_ONE * strength(wind);
        }

        long loudness(int b, int c) {
            return bells.weight[b] * unit[b * MOST_CELLS + c];
        }

        /** The set of the BELLS that are loudest in a cell and HEARD. */
        int loudestIn(int c) {
            long most = faint;
            int set = 0;
            for (int b = 0; b < bells.count; b++) {
                long grains = loudness(b, c);
                if (grains > most) {
                    most = grains;
                    set = 1 << b;
                } else if (grains == most) {
                    set |= 1 << b;
                }
            }
            return set;
        }

        /** What has to be surpassed in a cell by bells a and b, so that it is their own. */
        private long bar(int[] weight, int c, int a, int b) {
            long most = Math.max(0, faint - 1);
            for (int other = 0; other < bells.count; other++) {
                if (other != a && other != b) {
                    most = Math.max(most, weight[other] * unit[other * MOST_CELLS + c]);
                }
            }
            return most;
        }

        void setBars(int[] weight, int b) {
            for (int c = 0; c < ground.cells; c++) {
                bars[c] = bar(weight, c, b, b);
            }
        }

        /** In how many cells a bell of a weight is above the bars. */
        int howManyAboveBars(int b, int weight) {
            int found = 0;
            for (int c = 0; c < ground.cells; c++) {
                if (weight * unit[b * MOST_CELLS + c] > bars[c]) {
                    found++;
                }
            }
            return found;
        }

        /** In how many cells one more bell, hung in a cell, would be above the bars. */
        int ownOfNewIn(int from, int kind, int weight, int wind) {
            int found = 0;
            for (int c = 0; c < ground.cells; c++) {
                if (weight * blown(calmUnit(kind, from, c), from, c, wind) > bars[c]) {
                    found++;
                }
            }
            return found;
        }

        int ownOf(int b) {
            int set = 0;
            for (int c = 0; c < ground.cells; c++) {
                if (loudness(b, c) > bar(bells.weight, c, b, b)) {
                    set |= 1 << c;
                }
            }
            return set;
        }

        int ownOfBoth(int a, int b) {
            int set = 0;
            for (int c = 0; c < ground.cells; c++) {
                if (loudness(a, c) + loudness(b, c) > bar(bells.weight, c, a, b)) {
                    set |= 1 << c;
                }
            }
            return set;
        }

        /** The least WEIGHT by which a cell is a bell's own; NONE. */
        int leastToOwn(int b, int c) {
            long bar = bar(bells.weight, c, b, b);
            long one = unit[b * MOST_CELLS + c];
            for (int weight = 1; weight <= MOST_WEIGHT; weight++) {
                if (weight * one > bar) {
                    return weight;
                }
            }
            return NONE;
        }

        int heardIn(int b) {
            int set = 0;
            for (int c = 0; c < ground.cells; c++) {
                if (loudness(b, c) >= faint) {
                    set |= 1 << c;
                }
            }
            return set;
        }
    }

    /** The REPORTS of ears. */
    private static final class Reports {
        final Bells bells;
        final Air air;
        int count;
        final int[] cell;
        final int[] wind;
        final int[] louder;
        final int[] than;

        Reports(Bells itsBells, Air itsAir) {
            bells = itsBells;
            air = itsAir;
            cell = new int[MOST_REPORTS];
            wind = new int[MOST_REPORTS];
            louder = new int[MOST_REPORTS];
            than = new int[MOST_REPORTS];
        }

        int add(int c, int itsWind, int itsLouder, int itsThan) {
            int k = count;
            cell[k] = c;
            wind[k] = itsWind;
            louder[k] = itsLouder;
            than[k] = itsThan;
            count = k + 1;
            return k;
        }

        boolean isSo(int k) {
            return wouldBeSo(k, bells.weight[louder[k]], bells.weight[than[k]]);
        }

        private boolean wouldBeSo(int k, int louderWeight, int thanWeight) {
            return louderWeight * air.unitBy(louder[k], cell[k], wind[k])
                    > thanWeight * air.unitBy(than[k], cell[k], wind[k]);
        }

        /** Whether all that name a bell would be so, if it were of a weight. */
        boolean allowWeight(int b, int weight) {
            for (int k = 0; k < count; k++) {
                if (louder[k] == b && !wouldBeSo(k, weight, bells.weight[than[k]])) {
                    return false;
                }
                if (than[k] == b && !wouldBeSo(k, bells.weight[louder[k]], weight)) {
                    return false;
                }
            }
            return true;
        }
    }

    /** What to plant, so that a cell is a bell's own. */
    private static final class Woods {
        final Ground ground;
        final Bells bells;
        final Air air;
        /** By bell: how loud it is in the cell with nothing more planted, and over which cells. */
        final long[] grains;
        final int[] way;
        int owner;
        int plantable;

        Woods(Ground itsGround, Bells itsBells, Air itsAir) {
            ground = itsGround;
            bells = itsBells;
            air = itsAir;
            grains = new long[MOST_BELLS];
            way = new int[MOST_BELLS];
        }

        /** The set of cells to be planted by the wind that blew last; NONE. */
        int fewestToKeep(int b, int c) {
            owner = b;
            int useful = 0;
            for (int other = 0; other < bells.count; other++) {
                grains[other] = air.loudness(other, c);
                way[other] = ground.between(bells.cell[other], c);
                // What dims no other bell isn't in the fewest: without it all would be as well.
                useful |= other == b ? 0 : way[other];
            }
            plantable = useful & ~ground.planted & ~bells.cellsWithBells() & ~(1 << c);
            for (int n = 0; n <= MOST_PLANTED; n++) {
                int set = firstSet(this, 0, n, 0);
                if (set != NONE) {
                    return set;
                }
            }
            return NONE;
        }

        /** The first set that serves and has so many more cells from a cell on; it goes no deeper than these. */
        private static int firstSet(Woods woods, int from, int more, int set) {
            if (more <= 0) {
                return woods.isKeptBy(set) ? set : NONE;
            }
            for (int c = from; c < woods.ground.cells; c++) {
                if ((woods.plantable >> c & 1) == 1) {
                    int found = firstSet(woods, c + 1, more - 1, set | 1 << c);
                    if (found != NONE) {
                        return found;
                    }
                }
            }
            return NONE;
        }

        private boolean isKeptBy(int set) {
            long own = dimmed(owner, set);
            if (own < air.faint) {
                return false;
            }
            for (int b = 0; b < bells.count; b++) {
                if (b != owner && dimmed(b, set) >= own) {
                    return false;
                }
            }
            return true;
        }

        private long dimmed(int b, int set) {
            return grains[b] >> Integer.bitCount(way[b] & set);
        }
    }

    /** In which TURNS the bells are rung. */
    private static final class Ringing {
        /** Far more than six bells in six turns can need. */
        static final int MOST_STEPS = 1000000;

        final Bells bells;
        final Air air;
        final int[] heard;
        final int[] turn;

        Ringing(Bells itsBells, Air itsAir) {
            bells = itsBells;
            air = itsAir;
            heard = new int[MOST_BELLS];
            turn = new int[MOST_BELLS];
        }

        /** Finds the fewest turns by the wind that blew last, and the first row of them. */
        int fewest() {
            for (int b = 0; b < bells.count; b++) {
                heard[b] = air.heardIn(b);
            }
            for (int n = 0; n < bells.count; n++) {
                if (findFirstRow(n)) {
                    return n;
                }
            }
            findFirstRow(bells.count);
            return bells.count;
        }

        /** Goes through the rows in their order, back to the bell ahead where none of n turns is left. */
        private boolean findFirstRow(int n) {
            int b = 0;
            turn[0] = -1;
            for (int step = 0; step < MOST_STEPS && b >= 0 && b < bells.count; step++) {
                turn[b] = nextWithoutClash(b, turn[b] + 1, n);
                if (turn[b] >= n) {
                    b--;
                } else {
                    b++;
                    if (b < bells.count) {
                        turn[b] = -1;
                    }
                }
            }
            return b == bells.count;
        }

        private int nextWithoutClash(int b, int from, int n) {
            int t = from;
            while (t < n && clashesIn(b, t)) {
                t++;
            }
            return t;
        }

        private boolean clashesIn(int b, int t) {
            for (int a = 0; a < b; a++) {
                if (turn[a] == t && (heard[a] & heard[b]) != 0) {
                    return true;
                }
            }
            return false;
        }
    }

    /** RECASTING as it would go, on weights of its own. */
    private static final class Foundry {
        final Bells bells;
        final Air air;
        final int[] weight;
        /** By round: all weights in one number. */
        final long[] story;
        int rounds;
        int ring;

        Foundry(Bells itsBells, Air itsAir) {
            bells = itsBells;
            air = itsAir;
            weight = new int[MOST_BELLS];
            story = new long[MOST_ROUNDS + 1];
        }

        void go(int howMany) {
            begin();
            for (int done = 0; done < howMany; done++) {
                goRound();
            }
        }

        /** Finds rounds and ring; both are NONE, if no weights come again. */
        void goUntilRepeated() {
            begin();
            story[0] = allWeights();
            rounds = NONE;
            ring = NONE;
            for (int done = 1; done <= MOST_ROUNDS && ring == NONE; done++) {
                goRound();
                story[done] = allWeights();
                for (int earlier = 0; earlier < done; earlier++) {
                    if (story[earlier] == story[done]) {
                        rounds = done;
                        ring = done - earlier;
                    }
                }
            }
        }

        private void begin() {
            System.arraycopy(bells.weight, 0, weight, 0, MOST_BELLS);
        }

        private long allWeights() {
            long all = 0;
            for (int b = 0; b < bells.count; b++) {
                all = 100 * all + weight[b];
            }
            return all;
        }

        private void goRound() {
            for (int b = 0; b < bells.count; b++) {
                air.setBars(weight, b);
                weight[b] = bestWeight(b);
            }
        }

        private int bestWeight(int b) {
            int best = weight[b];
            // Below what the heaviest bell without own cells gains.
            int most = -MOST_WEIGHT - 1;
            int last = Math.min(MOST_WEIGHT, weight[b] + 1);
            for (int w = Math.max(1, weight[b] - 1); w <= last; w++) {
                int gain = 10 * air.howManyAboveBars(b, w) - w;
                if (gain > most) {
                    best = w;
                    most = gain;
                }
            }
            return best;
        }
    }
}
