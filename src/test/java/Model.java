import java.math.BigInteger;
import java.util.ArrayList;
import java.util.List;

/** The document once more, as plainly as it can be said, slow and without memory: random runs are held against it. */
final class Model {
    static final int NONE = -1;
    static final int BAD = -2;
    static final int NOT = -3;
    static final int FULL = -4;
    private static final long LONG_BAD = Long.MIN_VALUE + 2;

    private final StringBuilder[] texts = {new StringBuilder(), new StringBuilder()};
    private final List<int[]> bowls = new ArrayList<>();
    private final List<int[]> dogs = new ArrayList<>();
    private final List<int[]> sights = new ArrayList<>();
    private final int[][] sheets = new int[4][];
    private final int[] forms = new int[4];
    private int start = 0;
    private int frost = 10;
    private int finding = 0;

    /** What a walk hangs on; any guess is another one of these. */
    private record World(String[] rows, int start, int frost, List<int[]> bowls, List<int[]> dogs) {
        int height() {
            return rows.length;
        }

        int width() {
            return rows.length == 0 ? 0 : rows[0].length();
        }

        int cells() {
            return height() * width();
        }

        char sign(int row, int column) {
            return row < 0 || column < 0 || row >= height() || column >= width() ? '#' : rows[row].charAt(column);
        }

        int many(List<int[]> marks, int night, int row, int column) {
            int n = 0;
            for (int[] mark : marks) {
                if (mark[0] == night && mark[1] < cells() && mark[1] / width() == row && mark[1] % width() == column) {
                    n++;
                }
            }
            return n;
        }
    }

    // ---- texts

    private static int landFault(String t) {
        if (t.isEmpty()) {
            return NONE;
        }
        String[] rows = t.split(";", -1);
        int place = 0;
        for (int r = 0; r < rows.length; r++) {
            if (r == 6) {
                return place;
            }
            int widest = r == 0 ? 6 : rows[0].length();
            for (int c = 0; c < rows[r].length(); c++) {
                if (c == widest || ".#lw".indexOf(rows[r].charAt(c)) < 0) {
                    return place + c;
                }
            }
            if (rows[r].isEmpty() || r > 0 && rows[r].length() < widest) {
                return place + rows[r].length();
            }
            place += rows[r].length() + 1;
        }
        return NONE;
    }

    private static int housesFault(String t) {
        if (t.isEmpty() || t.matches("[0-3][0-9][0-9](;[0-3][0-9][0-9]){0,7}")) {
            return NONE;
        }
        for (int n = 1; n <= t.length(); n++) {
            String rest = "000;".substring(n % 4);
            String missing = n % 4 == 0 ? "000" : n % 4 == 3 ? "" : rest.substring(0, rest.length() - 1);
            String whole = t.substring(0, n) + missing;
            if (!whole.matches("([0-3][0-9][0-9];)*[0-3][0-9][0-9]")) {
                return n - 1;
            }
        }
        return t.length();
    }

    private World world() {
        String t = texts[0].toString();
        String[] rows = t.isEmpty() || landFault(t) != NONE ? new String[0] : t.split(";");
        return new World(rows, start, frost, bowls, dogs);
    }

    private List<int[]> houses() {
        List<int[]> all = new ArrayList<>();
        String t = texts[1].toString();
        if (!t.isEmpty() && housesFault(t) == NONE) {
            for (String house : t.split(";")) {
                all.add(new int[] {Integer.parseInt(house.substring(0, 2)), Integer.parseInt(house.substring(2))});
            }
        }
        return all;
    }

    // ---- walks

    /** For each night the places (row, column) it is on, one a step; none if it does not walk. */
    private static List<List<int[]>> walks(World w) {
        List<List<int[]>> nights = new ArrayList<>();
        for (int night = 0; night < 10; night++) {
            nights.add(walk(w, night, night == 0 ? List.of() : nights.get(night - 1)));
        }
        return nights;
    }

    private static List<int[]> walk(World w, int night, List<int[]> ahead) {
        List<int[]> path = new ArrayList<>();
        if (night >= w.frost() || w.sign(w.start(), 0) == '#') {
            return path;
        }
        path.add(new int[] {w.start(), 0});
        while (path.size() <= 24 && path.get(path.size() - 1)[1] != w.width() - 1) {
            int[] next = next(w, night, path, ahead);
            if (next == null) {
                break;
            }
            path.add(next);
        }
        return path;
    }

    private static int[] next(World w, int night, List<int[]> path, List<int[]> ahead) {
        int[] here = path.get(path.size() - 1);
        List<int[]> beside = beside(w, here);
        if (path.size() > 1 && beside.size() > 1) {
            int[] from = path.get(path.size() - 2);
            beside.removeIf(p -> p[0] == from[0] && p[1] == from[1]);
        }
        int[] best = null;
        for (int[] p : beside) {
            if (best == null || worth(w, night, p, path, ahead) > worth(w, night, best, path, ahead)) {
                best = p;
            }
        }
        return best;
    }

    private static List<int[]> beside(World w, int[] here) {
        int[][] ways = {{0, 1}, {1, 0}, {-1, 0}, {0, -1}};
        List<int[]> all = new ArrayList<>();
        for (int[] way : ways) {
            if (w.sign(here[0] + way[0], here[1] + way[1]) != '#') {
                all.add(new int[] {here[0] + way[0], here[1] + way[1]});
            }
        }
        return all;
    }

    private static boolean holds(List<int[]> path, int[] p) {
        return path.stream().anyMatch(q -> q[0] == p[0] && q[1] == p[1]);
    }

    private static int worth(World w, int night, int[] p, List<int[]> path, List<int[]> ahead) {
        char sign = w.sign(p[0], p[1]);
        int worth = 0;
        if (!holds(path, p)) {
            worth += 4 * w.many(w.bowls(), night, p[0], p[1]) + (sign == 'w' ? 3 : 0);
        }
        worth += sign == 'l' ? 2 : 0;
        worth += holds(ahead, p) ? 1 : 0;
        return worth - 5 * w.many(w.dogs(), night, p[0], p[1]);
    }

    /** From the told night back to the latest in which it was in that column. */
    private static int lineOf(World w, List<List<int[]>> walks, int night, int column) {
        for (int n = night; n >= 0; n--) {
            List<int[]> path = walks.get(n);
            for (int k = path.size() - 1; k >= 0; k--) {
                if (path.get(k)[1] == column) {
                    return path.get(k)[0];
                }
            }
        }
        return w.height() / 2;
    }

    private static int realmOf(World w, List<List<int[]>> walks, int night, int cell) {
        if (cell >= w.cells()) {
            return NONE;
        }
        int by = Integer.compare(cell / w.width(), lineOf(w, walks, night, cell % w.width()));
        return by < 0 ? 0 : by > 0 ? 1 : 2;
    }

    private boolean leads(World w, int night, int house, int realm) {
        return realmOf(w, walks(w), night, houses().get(house)[0]) == realm;
    }

    private boolean asSeen(World w) {
        List<List<int[]>> walks = walks(w);
        for (int[] sight : sights) {
            if (sight[1] >= houses().size()
                || realmOf(w, walks, sight[0], houses().get(sight[1])[0]) != sight[2]) {
                return false;
            }
        }
        return true;
    }

    private static boolean in(int v, int least, int most) {
        return v >= least && v <= most;
    }

    private int finds(int number) {
        finding = number;
        return -10 - number;
    }

    // ---- the face

    int type(int text, int b) {
        if (!in(text, 0, 1) || !in(b, 0, 255)) {
            return BAD;
        }
        if (texts[text].length() == (text == 0 ? 41 : 31)) {
            return FULL;
        }
        texts[text].append((char) b);
        return texts[text].length();
    }

    int wipe(int text) {
        if (!in(text, 0, 1)) {
            return BAD;
        }
        int had = texts[text].length();
        texts[text].setLength(0);
        return had;
    }

    int undo(int text) {
        if (!in(text, 0, 1)) {
            return BAD;
        }
        if (texts[text].length() == 0) {
            return NOT;
        }
        texts[text].setLength(texts[text].length() - 1);
        return texts[text].length();
    }

    int fault(int text) {
        if (!in(text, 0, 1)) {
            return BAD;
        }
        return text == 0 ? landFault(texts[0].toString()) : housesFault(texts[1].toString());
    }

    int cell(int cell) {
        if (!in(cell, 0, 35)) {
            return BAD;
        }
        World w = world();
        return cell < w.cells() ? ".#lw".indexOf(w.sign(cell / w.width(), cell % w.width())) : NONE;
    }

    int house(int house, int what) {
        return in(house, 0, houses().size() - 1) && in(what, 0, 1) ? houses().get(house)[what] : BAD;
    }

    int set(int what, int v) {
        int was = BAD;
        if (what == 0 && in(v, 0, 5)) {
            was = start;
            start = v;
        } else if (what == 1 && in(v, 0, 10)) {
            was = frost;
            frost = v;
        }
        return was;
    }

    private static int more(List<int[]> list, int... row) {
        if (list.size() == 8) {
            return FULL;
        }
        list.add(row);
        return list.size();
    }

    int bowl(int night, int cell) {
        return in(night, 0, 9) && in(cell, 0, 35) ? more(bowls, night, cell) : BAD;
    }

    int dog(int night, int cell) {
        return in(night, 0, 9) && in(cell, 0, 35) ? more(dogs, night, cell) : BAD;
    }

    int back(int what) {
        if (!in(what, 0, 1)) {
            return BAD;
        }
        List<int[]> list = what == 0 ? bowls : dogs;
        if (list.isEmpty()) {
            return NOT;
        }
        list.remove(list.size() - 1);
        return list.size();
    }

    int read(int s) {
        if (!in(s, 0, 3)) {
            return BAD;
        }
        if (sheets[s] == null) {
            return finds(1);
        }
        int n = 0;
        for (int i = 0; i + 1 < sheets[s].length; i += 2) {
            if (bowl(sheets[s][i], sheets[s][i + 1]) < 0) {
                break;
            }
            n++;
        }
        return n;
    }

    int at(int night, int steps) {
        if (!in(night, 0, 9) || !in(steps, 0, 24)) {
            return BAD;
        }
        World w = world();
        List<int[]> path = walks(w).get(night);
        if (path.isEmpty()) {
            return NONE;
        }
        int[] p = path.get(Math.min(steps, path.size() - 1));
        return p[0] * w.width() + p[1];
    }

    int goes(int night) {
        return in(night, 0, 9) ? Math.max(0, walks(world()).get(night).size() - 1) : BAD;
    }

    int line(int night, int column) {
        World w = world();
        return in(night, 0, 9) && in(column, 0, w.width() - 1) ? lineOf(w, walks(w), night, column) : BAD;
    }

    int realm(int night, int cell) {
        World w = world();
        return in(night, 0, 9) && in(cell, 0, w.cells() - 1) ? realmOf(w, walks(w), night, cell) : BAD;
    }

    int lies(int night, int house) {
        if (!in(night, 0, 9) || !in(house, 0, houses().size() - 1)) {
            return BAD;
        }
        World w = world();
        return realmOf(w, walks(w), night, houses().get(house)[0]);
    }

    int changes(int house) {
        if (!in(house, 0, houses().size() - 1)) {
            return BAD;
        }
        int times = 0;
        for (int night = 1; night <= 9; night++) {
            times += lies(night, house) == lies(night - 1, house) ? 0 : 1;
        }
        return times;
    }

    int taxes(int night, int realm) {
        if (!in(night, 0, 9) || !in(realm, 0, 1)) {
            return BAD;
        }
        int sum = 0;
        for (int n = 0; n <= night; n++) {
            for (int h = 0; h < houses().size(); h++) {
                sum += lies(n, h) == realm ? houses().get(h)[1] : 0;
            }
        }
        return sum;
    }

    int first(int what) {
        if (!in(what, 0, 1)) {
            return BAD;
        }
        for (int n = 0; n <= 9; n++) {
            for (int h = 0; h < houses().size(); h++) {
                if (lies(n, h) == 2) {
                    return what == 0 ? n : h;
                }
            }
        }
        return NONE;
    }

    private boolean asked(int night, int house, int realm) {
        return in(night, 0, 9) && in(house, 0, houses().size() - 1) && in(realm, 0, 2);
    }

    private boolean leadsWith(int night, int house, int realm, int... cells) {
        List<int[]> more = new ArrayList<>(bowls);
        for (int c : cells) {
            more.add(new int[] {night, c});
        }
        World w = world();
        return leads(new World(w.rows(), start, frost, more, dogs), night, house, realm);
    }

    private int[] plan(int night, int house, int realm) {
        int cells = world().cells();
        if (leadsWith(night, house, realm)) {
            return new int[0];
        }
        for (int a = 0; a < cells; a++) {
            if (leadsWith(night, house, realm, a)) {
                return new int[] {a};
            }
        }
        for (int a = 0; a < cells; a++) {
            for (int b = a; b < cells; b++) {
                if (leadsWith(night, house, realm, a, b)) {
                    return new int[] {a, b};
                }
            }
        }
        return null;
    }

    int layOut(int night, int house, int realm, int i) {
        if (!asked(night, house, realm) || !in(i, -1, 1)) {
            return BAD;
        }
        int[] plan = plan(night, house, realm);
        if (plan == null) {
            return NONE;
        }
        return i == NONE ? plan.length : i < plan.length ? plan[i] : NONE;
    }

    int rake(int night, int house, int realm) {
        if (!asked(night, house, realm)) {
            return BAD;
        }
        World w = world();
        for (int c = 0; c < w.cells(); c++) {
            if (w.sign(c / w.width(), c % w.width()) == '.') {
                String[] rows = w.rows().clone();
                StringBuilder row = new StringBuilder(rows[c / w.width()]);
                row.setCharAt(c % w.width(), 'l');
                rows[c / w.width()] = row.toString();
                if (leads(new World(rows, start, frost, bowls, dogs), night, house, realm)) {
                    return c;
                }
            }
        }
        return NONE;
    }

    int live(int realm, int what) {
        if (!in(realm, 0, 2) || !in(what, 0, 1)) {
            return BAD;
        }
        World w = world();
        List<List<int[]>> walks = walks(w);
        int[] best = {NONE, NONE};
        for (int c = 0; c < w.cells(); c++) {
            int cell = c;
            if (w.sign(c / w.width(), c % w.width()) != '#' && houses().stream().noneMatch(h -> h[0] == cell)) {
                int nights = 0;
                for (int n = 0; n <= 9; n++) {
                    nights += realmOf(w, walks, n, c) == realm ? 1 : 0;
                }
                if (nights > best[1]) {
                    best = new int[] {c, nights};
                }
            }
        }
        return best[what];
    }

    int seen(int night, int house, int realm) {
        return in(night, 0, 9) && in(house, 0, 7) && in(realm, 0, 2) ? more(sights, night, house, realm) : BAD;
    }

    int forget() {
        int had = sights.size();
        sights.clear();
        return had;
    }

    int never() {
        int bits = 0;
        for (int i = 0; i < bowls.size(); i++) {
            List<int[]> less = new ArrayList<>(bowls);
            less.remove(i);
            bits += asSeen(new World(world().rows(), start, frost, less, dogs)) ? 1 << i : 0;
        }
        return bits;
    }

    int began() {
        int bits = 0;
        for (int s = 0; s <= 5; s++) {
            bits += asSeen(new World(world().rows(), s, frost, bowls, dogs)) ? 1 << s : 0;
        }
        return bits;
    }

    int ask(int night) {
        if (!in(night, 0, 9)) {
            return BAD;
        }
        int starts = began();
        int best = NONE;
        int least = 99;
        for (int h = 0; h < houses().size(); h++) {
            int[] by = new int[4];
            int most = 0;
            for (int s = 0; s <= 5; s++) {
                if ((starts & 1 << s) != 0) {
                    World w = new World(world().rows(), s, frost, bowls, dogs);
                    int r = realmOf(w, walks(w), night, houses().get(h)[0]);
                    by[r + 1]++;
                    most = Math.max(most, by[r + 1]);
                }
            }
            if (most < least) {
                best = h;
                least = most;
            }
        }
        return best;
    }

    /** Of the first i bowls it is settled whether they are there; the parts of 16 to the power of all bowls. */
    private BigInteger parts(int c, int[] question, int i, List<int[]> there) {
        if (i == bowls.size()) {
            World w = new World(world().rows(), start, frost, there, dogs);
            return leads(w, question[0], question[1], question[2]) ? BigInteger.ONE : BigInteger.ZERO;
        }
        List<int[]> with = new ArrayList<>(there);
        with.add(bowls.get(i));
        return parts(c, question, i + 1, with).multiply(BigInteger.valueOf(c))
            .add(parts(c, question, i + 1, there).multiply(BigInteger.valueOf(16 - c)));
    }

    long cat(int c, int night, int house, int realm, int what) {
        if (!in(c, 0, 16) || !asked(night, house, realm) || !in(what, 0, 1)) {
            return LONG_BAD;
        }
        BigInteger above = parts(c, new int[] {night, house, realm}, 0, new ArrayList<>());
        BigInteger below = BigInteger.valueOf(16).pow(bowls.size());
        return (what == 0 ? above : below).divide(above.gcd(below)).longValueExact();
    }

    int roam(int seed, int n, int what) {
        if (!in(n, 0, 60) || !in(what, 0, 1)) {
            return BAD;
        }
        World w = world();
        if (w.sign(start, 0) == '#') {
            return what == 0 ? NONE : 0;
        }
        List<int[]> been = new ArrayList<>();
        int[] here = {start, 0};
        been.add(here);
        long lot = seed & 0xFFFFFFFFL;
        for (int i = 0; i < n; i++) {
            List<int[]> beside = beside(w, here);
            if (!beside.isEmpty()) {
                lot = (1103515245L * lot + 12345L) & 0xFFFFFFFFL;
                here = beside.get((int) (lot / 65536 % beside.size()));
                if (!holds(been, here)) {
                    been.add(here);
                }
            }
        }
        return what == 0 ? here[0] * w.width() + here[1] : been.size();
    }

    int sheet(int s, int form, int n) {
        if (!in(s, 0, 3) || !in(form, 0, 2) || n > 60) {
            return BAD;
        }
        if (n < 0) {
            return finds(5);
        }
        sheets[s] = new int[n];
        forms[s] = form;
        return n;
    }

    int lose(int s) {
        if (!in(s, 0, 3)) {
            return BAD;
        }
        if (sheets[s] == null) {
            return finds(1);
        }
        int had = sheets[s].length;
        sheets[s] = null;
        return had;
    }

    private int wrong(int s, int form, int i) {
        return sheets[s] == null ? 1 : forms[s] != form ? 3 : !in(i, 0, sheets[s].length - 1) ? 2 : 0;
    }

    private void put(int s, int i, int v) {
        sheets[s][i] = forms[s] == 0 ? (byte) v : forms[s] == 1 ? (short) v : v;
    }

    int lay(int s, int form, int i, int v) {
        if (!in(s, 0, 3) || !in(form, 0, 2)) {
            return BAD;
        }
        if (wrong(s, form, i) != 0) {
            return finds(wrong(s, form, i));
        }
        put(s, i, v);
        return 1;
    }

    int get(int s, int form, int i) {
        if (!in(s, 0, 3) || !in(form, 0, 2)) {
            return Integer.MIN_VALUE;
        }
        if (wrong(s, form, i) != 0) {
            finds(wrong(s, form, i));
            return Integer.MIN_VALUE;
        }
        return sheets[s][i];
    }

    int copy(int s, int i, int t, int j, int n) {
        if (!in(s, 0, 3) || !in(t, 0, 3)) {
            return BAD;
        }
        if (sheets[s] == null || sheets[t] == null) {
            return finds(1);
        }
        if (forms[s] != forms[t]) {
            return finds(4);
        }
        if (i < 0 || j < 0 || n < 0 || (long) i + n > sheets[s].length || (long) j + n > sheets[t].length) {
            return finds(2);
        }
        int[] were = sheets[s].clone();
        for (int k = 0; k < n; k++) {
            sheets[t][j + k] = were[i + k];
        }
        return 1;
    }

    int write(int night, int s) {
        if (!in(night, 0, 9) || !in(s, 0, 3)) {
            return BAD;
        }
        if (sheets[s] == null) {
            return finds(1);
        }
        int n = 0;
        for (int k = 0; k < sheets[s].length && k <= 24; k++) {
            put(s, k, at(night, k));
            n++;
        }
        return n;
    }

    int count(int what) {
        int[] all = {world().cells(), houses().size(), texts[0].length(), texts[1].length(),
            bowls.size(), dogs.size(), world().width(), sights.size(), finding};
        return in(what, 0, 8) ? all[what] : BAD;
    }

    long digest() {
        List<Long> all = new ArrayList<>();
        for (int what = 0; what <= 7; what++) {
            all.add((long) count(what));
        }
        all.add((long) fault(0));
        all.add((long) fault(1));
        for (int c = 0; c < world().cells(); c++) {
            all.addAll(List.of((long) cell(c), (long) realm(0, c), (long) realm(9, c)));
        }
        for (int h = 0; h < houses().size(); h++) {
            all.addAll(List.of((long) house(h, 0), (long) house(h, 1), (long) lies(0, h), (long) lies(9, h),
                (long) changes(h)));
            all.addAll(List.of((long) layOut(3, h, 0, NONE), (long) layOut(3, h, 0, 0), (long) rake(3, h, 1)));
            all.addAll(List.of(cat(5, 4, h, 0, 0), cat(5, 4, h, 0, 1)));
        }
        for (int n : new int[] {0, 3, 9}) {
            all.addAll(List.of((long) at(n, 3), (long) at(n, 24), (long) goes(n), (long) ask(n),
                (long) taxes(n, 0), (long) taxes(n, 1)));
            for (int c = 0; c < world().width(); c++) {
                all.add((long) line(n, c));
            }
        }
        all.addAll(List.of((long) first(0), (long) first(1), (long) live(0, 0), (long) live(0, 1)));
        all.addAll(List.of((long) live(1, 0), (long) live(1, 1), (long) never(), (long) began()));
        all.addAll(List.of((long) roam(7, 20, 0), (long) roam(7, 20, 1)));
        long h = 17;
        for (long part : all) {
            h = 31 * h + part;
        }
        return h;
    }
}
