import java.util.ArrayList;
import java.util.Arrays;
import java.util.List;

/**
 * The document read a second time, as plainly as can be and without a thought of speed: shares as upper
 * and lower numbers, every search by trying all. RandomRunsTest holds BellLand against it.
 */
final class PlainLand {
    private static final long LOST = Long.MIN_VALUE;

    private record Bell(int kind, int cell, int weight) {}

    private record Report(int cell, int wind, int louder, int than) {}

    private record Share(long upper, long lower) {
        Share times(long up, long low) {
            return new Share(upper * up, lower * low);
        }

        Share and(Share other) {
            return new Share(upper * other.lower + other.upper * lower, lower * other.lower).least();
        }

        Share least() {
            long a = upper;
            long b = lower;
            while (b != 0) {
                long rest = a % b;
                a = b;
                b = rest;
            }
            return new Share(upper / a, lower / a);
        }

        int against(Share other) {
            return Long.compare(Math.multiplyExact(upper, other.lower), Math.multiplyExact(other.upper, lower));
        }
    }

    private int high;
    private int wide;
    private int ear;
    private int[] heights = new int[0];
    private boolean[] planted = new boolean[0];
    private List<Bell> bells = new ArrayList<>();
    private List<Report> reports = new ArrayList<>();
    private final Object[] sheets = new Object[4];
    private int trace;
    private int fault;

    // ---- refusals

    private boolean noCell(int c) {
        return c < 0 || c >= heights.length;
    }

    private boolean noBell(int b) {
        return b < 0 || b >= bells.size();
    }

    private static boolean not(int v, int from, int to) {
        return v < from || v > to;
    }

    // ---- sheets

    private static int sortOf(Object row) {
        return row instanceof byte[] ? 0 : row instanceof short[] ? 1 : 2;
    }

    private static int sizeOf(Object row) {
        return row instanceof byte[] b ? b.length : row instanceof short[] s ? s.length : ((int[]) row).length;
    }

    private static int numberOf(Object row, int i) {
        return row instanceof byte[] b ? b[i] : row instanceof short[] s ? s[i] : ((int[]) row)[i];
    }

    int sheet(int k, int sort, int n) {
        fault = 0;
        if (not(k, 0, 3)) {
            return -1;
        }
        if (not(sort, 0, 2) || n > 60) {
            return -2;
        }
        if (n < 0) {
            fault = 4;
            return -14;
        }
        sheets[k] = sort == 0 ? new byte[n] : sort == 1 ? new short[n] : (Object) new int[n];
        return 1;
    }

    int lose(int k) {
        if (not(k, 0, 3)) {
            return -1;
        }
        int had = sheets[k] == null ? 0 : 1;
        sheets[k] = null;
        return had;
    }

    int put(int k, int i, int v) {
        fault = 0;
        if (not(k, 0, 3)) {
            return -1;
        }
        Object row = sheets[k];
        if (row == null) {
            fault = 1;
            return -11;
        }
        if (not(i, 0, sizeOf(row) - 1)) {
            fault = 3;
            return -13;
        }
        if (row instanceof byte[] b) {
            b[i] = (byte) v;
        } else if (row instanceof short[] s) {
            s[i] = (short) v;
        } else {
            ((int[]) row)[i] = v;
        }
        return 1;
    }

    long cell(int k, int i, int sort) {
        fault = 0;
        if (not(k, 0, 3) || not(sort, 0, 2)) {
            return LOST;
        }
        Object row = sheets[k];
        if (row != null && sortOf(row) != sort) {
            fault = 2;
        } else if (row == null) {
            fault = 1;
        } else if (not(i, 0, sizeOf(row) - 1)) {
            fault = 3;
        }
        return fault == 0 ? numberOf(row, i) : LOST;
    }

    int copy(int k, int i, int other, int j, int n) {
        fault = 0;
        if (not(k, 0, 3) || not(other, 0, 3)) {
            return -1;
        }
        Object from = sheets[k];
        Object to = sheets[other];
        if (from == null || to == null) {
            fault = 1;
        } else if (sortOf(from) != sortOf(to)) {
            fault = 2;
        } else if (i < 0 || j < 0 || n < 0 || (long) i + n > sizeOf(from) || (long) j + n > sizeOf(to)) {
            fault = 3;
        } else {
            System.arraycopy(from, i, to, j, n);
        }
        return fault == 0 ? n : -10 - fault;
    }

    private int faultOfRow(Object row, int sort, int i, int n) {
        if (row != null && sortOf(row) != sort) {
            return 2;
        }
        if (row == null) {
            return 1;
        }
        if (n < 0) {
            return 4;
        }
        return i < 0 || (long) i + n > sizeOf(row) ? 3 : 0;
    }

    // ---- land

    int land(int sheet, int sort, int i, int n) {
        fault = 0;
        if (not(sheet, 0, 3)) {
            return -1;
        }
        if (not(sort, 0, 2)) {
            return -2;
        }
        fault = faultOfRow(sheets[sheet], sort, i, n);
        if (fault != 0) {
            return -10 - fault;
        }
        StringBuilder text = new StringBuilder();
        for (int k = 0; k < n; k++) {
            int code = numberOf(sheets[sheet], i + k);
            text.append(code >= 0 && code <= 127 ? (char) code : '?');
        }
        int longest = 0;
        for (int h = 2; h <= 5; h++) {
            for (int w = 2; w <= 6; w++) {
                String form = "g" + h + w + (";" + "#".repeat(w)).repeat(h);
                int same = 0;
                while (same < Math.min(n, form.length()) && fits(text.charAt(same), form.charAt(same))) {
                    same++;
                }
                longest = Math.max(longest, same);
                if (same == n && n == form.length()) {
                    take(text.toString(), h, w);
                    return h * w;
                }
            }
        }
        return -100 - longest;
    }

    private static boolean fits(char code, char form) {
        return form == '#' ? code >= '0' && code <= '9' : code == form;
    }

    private void take(String text, int h, int w) {
        high = h;
        wide = w;
        ear = 10;
        String digits = text.substring(3).replace(";", "");
        heights = new int[h * w];
        for (int c = 0; c < h * w; c++) {
            heights[c] = digits.charAt(c) - '0';
        }
        planted = new boolean[h * w];
        bells = new ArrayList<>();
        reports = new ArrayList<>();
    }

    int ofCell(int c, int what) {
        if (noCell(c)) {
            return -1;
        }
        return switch (what) {
            case 0 -> heights[c];
            case 1 -> 10 - heights[c];
            case 2 -> planted[c] ? 1 : 0;
            case 3 -> (int) bells.stream().filter(bell -> bell.cell == c).count();
            default -> -2;
        };
    }

    int plant(int c, boolean is) {
        if (noCell(c)) {
            return -1;
        }
        if (planted[c] == is) {
            return 0;
        }
        planted[c] = is;
        return 1;
    }

    int ear(int v) {
        if (not(v, 0, 99)) {
            return -2;
        }
        if (heights.length == 0) {
            return -3;
        }
        int was = ear;
        ear = v;
        return was;
    }

    // ---- bells

    int bell(int kind, int c, int weight) {
        if (noCell(c)) {
            return -1;
        }
        if (not(kind, 0, 2) || not(weight, 1, 99)) {
            return -2;
        }
        if (bells.size() == 6) {
            return -4;
        }
        bells.add(new Bell(kind, c, weight));
        return bells.size() - 1;
    }

    int ofBell(int b, int what) {
        if (noBell(b)) {
            return -1;
        }
        Bell bell = bells.get(b);
        return what == 0 ? bell.kind : what == 1 ? bell.cell : what == 2 ? bell.weight : -2;
    }

    int recast(int b, int weight) {
        if (noBell(b)) {
            return -1;
        }
        if (not(weight, 1, 99)) {
            return -2;
        }
        int was = bells.get(b).weight;
        weigh(b, weight);
        return was;
    }

    private void weigh(int b, int weight) {
        Bell bell = bells.get(b);
        bells.set(b, new Bell(bell.kind, bell.cell, weight));
    }

    private Share loudOf(Bell bell, int c, int wind) {
        int rows = c / wide - bell.cell / wide;
        int columns = c % wide - bell.cell % wide;
        int d = rows * rows + columns * columns;
        Share loud = bell.kind == 0 ? new Share(bell.weight, 1 + d) : new Share(2L * bell.weight, 2 + d);
        int n = Math.max(Math.abs(rows), Math.abs(columns));
        for (int k = 1; k <= n - 1; k++) {
            int between = (bell.cell / wide + on(2 * k * rows, n)) * wide + bell.cell % wide + on(2 * k * columns, n);
            if (heights[between] > heights[c] && heights[between] > heights[bell.cell] && bell.kind != 2) {
                loud = loud.times(1, 2);
            }
            if (planted[between]) {
                loud = loud.times(1, 2);
            }
        }
        int strong = wind % 10;
        int[] that = {-rows, columns, rows, -columns};
        if (that[wind / 10] > 0) {
            loud = loud.times(10 + strong, 10);
        } else if (that[wind / 10] < 0) {
            loud = loud.times(10, 10 + strong);
        }
        return loud.least();
    }

    private static int on(int twice, int n) {
        return twice < 0 ? (twice - n) / (2 * n) : (twice + n) / (2 * n);
    }

    private Share loudOf(int b, int c, int wind) {
        return loudOf(bells.get(b), c, wind);
    }

    private boolean isHeard(Share loud) {
        return loud.against(new Share(ear, 10)) >= 0;
    }

    long loud(int b, int c, int wind, int which) {
        if (noBell(b) || noCell(c) || not(wind, 0, 39) || not(which, 0, 1)) {
            return LOST;
        }
        Share loud = loudOf(b, c, wind);
        return which == 0 ? loud.upper : loud.lower;
    }

    private List<Integer> loudest(int c, int wind) {
        List<Integer> most = new ArrayList<>();
        for (int b = 0; b < bells.size(); b++) {
            Share loud = loudOf(b, c, wind);
            boolean beaten = !isHeard(loud);
            for (int a = 0; a < bells.size(); a++) {
                beaten |= loudOf(a, c, wind).against(loud) > 0;
            }
            if (!beaten) {
                most.add(b);
            }
        }
        return most;
    }

    int whose(int c, int wind) {
        if (noCell(c)) {
            return -1;
        }
        if (not(wind, 0, 39)) {
            return -2;
        }
        List<Integer> most = loudest(c, wind);
        return most.isEmpty() ? -6 : most.size() > 1 ? -5 : most.get(0);
    }

    int reach(int b, int wind) {
        if (noBell(b)) {
            return -1;
        }
        if (not(wind, 0, 39)) {
            return -2;
        }
        int set = 0;
        for (int c = 0; c < heights.length; c++) {
            set |= loudest(c, wind).contains(b) ? 1 << c : 0;
        }
        return set;
    }

    private List<Integer> own(int b, int wind) {
        List<Integer> cells = new ArrayList<>();
        for (int c = 0; c < heights.length; c++) {
            if (whose(c, wind) == b) {
                cells.add(c);
            }
        }
        return cells;
    }

    // ---- tithes

    long tithes(int b, int sheet, int sort, int i, int n, int which) {
        fault = 0;
        if (noBell(b) || not(sheet, 0, 3) || not(sort, 0, 2)) {
            return LOST;
        }
        fault = faultOfRow(sheets[sheet], sort, i, n);
        if (fault != 0) {
            return LOST;
        }
        Share sum = new Share(0, 1);
        for (int day = 0; day < n; day++) {
            int wind = numberOf(sheets[sheet], i + day);
            if (not(wind, 0, 39)) {
                return LOST;
            }
            for (int c = 0; c < heights.length; c++) {
                List<Integer> most = loudest(c, wind);
                if (most.contains(b)) {
                    sum = sum.and(new Share(10 - heights[c], most.size()));
                }
            }
        }
        return which == 0 ? sum.upper : which == 1 ? sum.lower : LOST;
    }

    int wins(int b, int c, int wind) {
        if (noBell(b) || noCell(c)) {
            return -1;
        }
        if (not(wind, 0, 39)) {
            return -2;
        }
        int was = bells.get(b).weight;
        int least = -9;
        for (int weight = 99; weight >= 1; weight--) {
            weigh(b, weight);
            if (whose(c, wind) == b) {
                least = weight;
            }
        }
        weigh(b, was);
        return least;
    }

    int cheapest(int c, int wind, int what) {
        if (noCell(c)) {
            return -1;
        }
        if (not(wind, 0, 39) || not(what, 0, 1)) {
            return -2;
        }
        for (int more = 0; more <= 98; more++) {
            for (int b = 0; b < bells.size(); b++) {
                int wins = wins(b, c, wind);
                if (wins != -9 && wins - bells.get(b).weight <= more) {
                    return what == 0 ? b : more;
                }
            }
        }
        return -9;
    }

    int hang(int kind, int weight, int wind, int what) {
        if (not(kind, 0, 2) || not(weight, 1, 99) || not(wind, 0, 39) || not(what, 0, 1)) {
            return -2;
        }
        if (heights.length == 0) {
            return -3;
        }
        if (bells.size() == 6) {
            return -4;
        }
        int[] has = new int[heights.length];
        for (int c = 0; c < heights.length; c++) {
            bells.add(new Bell(kind, c, weight));
            has[c] = own(bells.size() - 1, wind).size();
            bells.remove(bells.size() - 1);
        }
        int most = Arrays.stream(has).max().getAsInt();
        for (int c = 0; c < heights.length; c++) {
            if (has[c] == most) {
                return what == 0 ? c : most;
            }
        }
        return -99;
    }

    private List<Integer> ownOfBoth(int a, int b, int wind) {
        List<Integer> cells = new ArrayList<>();
        for (int c = 0; c < heights.length; c++) {
            Share both = loudOf(a, c, wind).and(loudOf(b, c, wind));
            boolean own = isHeard(both);
            for (int other = 0; other < bells.size(); other++) {
                own &= other == a || other == b || both.against(loudOf(other, c, wind)) > 0;
            }
            if (own) {
                cells.add(c);
            }
        }
        return cells;
    }

    int together(int a, int b, int wind) {
        if (noBell(a) || noBell(b) || a == b) {
            return -1;
        }
        if (not(wind, 0, 39)) {
            return -2;
        }
        return ownOfBoth(a, b, wind).stream().mapToInt(c -> 1 << c).sum();
    }

    private int titheOf(List<Integer> cells) {
        return cells.stream().mapToInt(c -> 10 - heights[c]).sum();
    }

    int pacts(int wind, int k) {
        if (not(wind, 0, 39)) {
            return -2;
        }
        if (k < -1) {
            return -1;
        }
        List<Integer> pairs = new ArrayList<>();
        for (int a = 0; a < bells.size(); a++) {
            for (int b = a + 1; b < bells.size(); b++) {
                double half = titheOf(ownOfBoth(a, b, wind)) / 2.0;
                if (half > titheOf(own(a, wind)) && half > titheOf(own(b, wind))) {
                    pairs.add(10 * a + b);
                }
            }
        }
        return k == -1 ? pairs.size() : k < pairs.size() ? pairs.get(k) : -9;
    }

    // ---- reports, woods, turns

    int report(int c, int wind, int louder, int than) {
        if (noCell(c) || noBell(louder) || noBell(than) || louder == than) {
            return -1;
        }
        if (not(wind, 0, 39)) {
            return -2;
        }
        if (reports.size() == 10) {
            return -4;
        }
        reports.add(new Report(c, wind, louder, than));
        return reports.size() - 1;
    }

    int back(int k) {
        if (not(k, 0, reports.size())) {
            return -2;
        }
        reports = new ArrayList<>(reports.subList(0, reports.size() - k));
        return reports.size();
    }

    private boolean isSo(Report r) {
        return loudOf(r.louder, r.cell, r.wind).against(loudOf(r.than, r.cell, r.wind)) > 0;
    }

    int untrue() {
        int set = 0;
        for (int k = 0; k < reports.size(); k++) {
            set += isSo(reports.get(k)) ? 0 : 1 << k;
        }
        return set;
    }

    int leaves(int b, int what) {
        if (noBell(b)) {
            return -1;
        }
        if (not(what, 0, 2)) {
            return -2;
        }
        int was = bells.get(b).weight;
        List<Integer> left = new ArrayList<>();
        for (int weight = 1; weight <= 99; weight++) {
            weigh(b, weight);
            if (reports.stream().filter(r -> r.louder == b || r.than == b).allMatch(this::isSo)) {
                left.add(weight);
            }
        }
        weigh(b, was);
        if (what == 0) {
            return left.size();
        }
        return left.isEmpty() ? -9 : left.get(what == 1 ? 0 : left.size() - 1);
    }

    int keep(int b, int c, int wind, int q) {
        if (noBell(b) || noCell(c)) {
            return -1;
        }
        if (not(wind, 0, 39)) {
            return -2;
        }
        if (not(q, -1, 2)) {
            return -1;
        }
        boolean[] were = planted.clone();
        int[] found = null;
        for (int n = 0; n <= 3 && found == null; n++) {
            found = firstThatKeeps(b, c, wind, n, were);
        }
        planted = were;
        if (found == null) {
            return -9;
        }
        return q == -1 ? found.length : q < found.length ? found[q] : -9;
    }

    private int[] firstThatKeeps(int b, int c, int wind, int n, boolean[] were) {
        int end = heights.length;
        for (int x = 0; x < (n > 0 ? end : 1); x++) {
            for (int y = n > 1 ? x + 1 : 0; y < (n > 1 ? end : 1); y++) {
                for (int z = n > 2 ? y + 1 : 0; z < (n > 2 ? end : 1); z++) {
                    int[] row = Arrays.copyOf(new int[] {x, y, z}, n);
                    if (Arrays.stream(row).anyMatch(p -> were[p] || p == c || ofCell(p, 3) > 0)) {
                        continue;
                    }
                    planted = were.clone();
                    for (int p : row) {
                        planted[p] = true;
                    }
                    if (whose(c, wind) == b) {
                        return row;
                    }
                }
            }
        }
        return null;
    }

    private boolean clash(int a, int b, int wind) {
        for (int c = 0; c < heights.length; c++) {
            if (isHeard(loudOf(a, c, wind)) && isHeard(loudOf(b, c, wind))) {
                return true;
            }
        }
        return false;
    }

    int turns(int wind, int b) {
        if (not(wind, 0, 39)) {
            return -2;
        }
        if (not(b, -1, bells.size() - 1)) {
            return -1;
        }
        int m = bells.size();
        boolean[][] clash = new boolean[m][m];
        for (int x = 0; x < m; x++) {
            for (int y = 0; y < m; y++) {
                clash[x][y] = x != y && clash(x, y, wind);
            }
        }
        for (int n = 0; n <= m; n++) {
            for (int number = 0; number < Math.round(Math.pow(n, m)); number++) {
                int[] row = new int[m];
                int rest = number;
                for (int x = m - 1; x >= 0; x--) {
                    row[x] = rest % n;
                    rest /= n;
                }
                boolean bad = false;
                for (int x = 0; x < m; x++) {
                    for (int y = 0; y < x; y++) {
                        bad |= clash[x][y] && row[x] == row[y];
                    }
                }
                if (!bad) {
                    return b == -1 ? n : row[b];
                }
            }
        }
        return -99;
    }

    // ---- recasting

    private void round(int wind) {
        for (int b = 0; b < bells.size(); b++) {
            int was = bells.get(b).weight;
            int best = 0;
            int most = -1000;
            for (int weight = was - 1; weight <= was + 1; weight++) {
                if (not(weight, 1, 99)) {
                    continue;
                }
                weigh(b, weight);
                int gain = 10 * own(b, wind).size() - weight;
                if (gain > most) {
                    best = weight;
                    most = gain;
                }
            }
            weigh(b, best);
        }
    }

    int settles(int wind, int what) {
        if (not(wind, 0, 39) || not(what, 0, 1)) {
            return -2;
        }
        if (bells.isEmpty()) {
            return -3;
        }
        List<Bell> were = new ArrayList<>(bells);
        List<List<Bell>> past = new ArrayList<>();
        past.add(were);
        int answer = -9;
        for (int rounds = 1; rounds <= 200; rounds++) {
            round(wind);
            int earlier = past.indexOf(bells);
            if (earlier >= 0) {
                answer = what == 0 ? rounds : rounds - earlier;
                break;
            }
            past.add(new ArrayList<>(bells));
        }
        bells = were;
        return answer;
    }

    int after(int b, int wind, int rounds) {
        if (noBell(b)) {
            return -1;
        }
        if (not(wind, 0, 39) || not(rounds, 0, 200)) {
            return -2;
        }
        List<Bell> were = new ArrayList<>(bells);
        for (int done = 0; done < rounds; done++) {
            round(wind);
        }
        int weight = bells.get(b).weight;
        bells = were;
        return weight;
    }

    // ---- bodies

    int tell(int b) {
        if (noBell(b)) {
            return -1;
        }
        int weight = bells.get(b).weight;
        int[][] bodies = {{1}, {2, 1}, {3, 2, 1, 1}};
        for (int body : bodies[bells.get(b).kind]) {
            trace = 31 * trace + body;
        }
        return new int[] {weight, weight + 100, 2 * weight + 100}[bells.get(b).kind];
    }

    int bless(int b) {
        if (noBell(b)) {
            return -1;
        }
        boolean great = bells.get(b).kind == 2;
        trace = 31 * trace + (great ? 5 : 4);
        return great ? 60 : b;
    }

    int as(int b, int kind) {
        fault = 0;
        if (noBell(b)) {
            return -1;
        }
        if (not(kind, 0, 2)) {
            return -2;
        }
        if (bells.get(b).kind < kind) {
            fault = 2;
            return -12;
        }
        return 1;
    }

    int trace() {
        return trace;
    }

    int fault() {
        return fault;
    }

    int many(int what) {
        int woods = 0;
        for (boolean is : planted) {
            woods += is ? 1 : 0;
        }
        int[] all = {heights.length, high, wide, bells.size(), woods, reports.size(), ear};
        return not(what, 0, 6) ? -2 : all[what];
    }
}
