import java.util.Arrays;

/** The border runs where the hedgehog walked in the night: land, houses, bowls, walks, plans and guesses. */
public final class HedgehogBorder {
    public static final int NONE = -1, BAD = -2, NOT = -3, FULL = -4;

    private static final int NIGHTS = 10;
    private static final int STEPS = 24;
    private static final int TRACK = STEPS + 1;
    private static final int SIDE = 6;
    private static final int CELLS = SIDE * SIDE;
    private static final int MOST = 8;
    private static final int LAND_BYTES = 41;
    private static final int HOUSE_BYTES = 31;
    private static final int HOUSE_SIGNS = 4;
    private static final int WAYS = 4;
    private static final int REALMS = 3;
    private static final int COMMON = 2;
    private static final int OPEN = 0, WALL = 1, LEAVES = 2, WORMS = 3;
    private static final int BOWL_WORTH = 4, WORMS_WORTH = 3, LEAVES_WORTH = 2, AGAIN_WORTH = 1, DOG_WORTH = 5;
    private static final int CHANCES = 16;
    private static final int FRACTION_BITS = 32;
    private static final int ROAM_STEPS = 60;
    private static final int SHEETS = 4;
    private static final int FORMS = 3;
    private static final int ITEMS = 60;
    private static final int FINDING_NULL = 1, FINDING_INDEX = 2, FINDING_CAST = 3;
    private static final int FINDING_STORE = 4, FINDING_SIZE = 5;
    private static final int LEAST_INT = 0x80000000;
    private static final long LEAST_LONG = 0x8000000000000000L;

    private final Text[] texts;
    private final Land land;
    private final Houses houses;
    private final Marks bowls;
    private final Marks dogs;
    private final Marks sights;
    private final Walker walks;
    private final Walker trial;
    private final Laid laid;
    private final Chances chances;
    private final int[] tally;
    private final Sheet[] sheets;
    private boolean stale;
    private int finding;

    public HedgehogBorder() {
        texts = new Text[2];
        texts[0] = new Text(LAND_BYTES);
        texts[1] = new Text(HOUSE_BYTES);
        land = new Land();
        houses = new Houses();
        bowls = new Marks();
        dogs = new Marks();
        sights = new Marks();
        walks = new Walker(land, bowls, dogs);
        trial = new Walker(land, bowls, dogs);
        laid = new Laid();
        chances = new Chances();
        tally = new int[MOST * (REALMS + 1)];
        sheets = new Sheet[SHEETS];
        for (int s = 0; s < SHEETS; s++) {
            sheets[s] = new Sheet();
        }
        stale = true;
        finding = 0;
    }

    // ---- the land, houses, bowls, dogs

    public int type(int text, int b) {
        if (!isUpTo(text, 1) || !isUpTo(b, 255)) {
            return BAD;
        }
        if (!texts[text].append(b)) {
            return FULL;
        }
        understand(text);
        return texts[text].length;
    }

    public int wipe(int text) {
        if (!isUpTo(text, 1)) {
            return BAD;
        }
        int had = texts[text].length;
        texts[text].length = 0;
        understand(text);
        return had;
    }

    public int undo(int text) {
        if (!isUpTo(text, 1)) {
            return BAD;
        }
        if (texts[text].length == 0) {
            return NOT;
        }
        texts[text].length--;
        understand(text);
        return texts[text].length;
    }

    public int fault(int text) {
        if (!isUpTo(text, 1)) {
            return BAD;
        }
        return text == 0 ? land.flaw : houses.flaw;
    }

    public int cell(int cell) {
        if (!isUpTo(cell, CELLS - 1)) {
            return BAD;
        }
        return cell < land.cells ? land.kinds[cell] : NONE;
    }

    public int house(int house, int what) {
        if (!isHouse(house) || !isUpTo(what, 1)) {
            return BAD;
        }
        return what == 0 ? houses.places[house] : houses.dues[house];
    }

    public int set(int what, int v) {
        if (!isUpTo(what, 1) || !isUpTo(v, what == 0 ? SIDE - 1 : NIGHTS)) {
            return BAD;
        }
        int was;
        if (what == 0) {
            was = walks.start;
            walks.start = v;
        } else {
            was = walks.frost;
            walks.frost = v;
        }
        stale = true;
        return was;
    }

    public int bowl(int night, int cell) {
        return putMark(bowls, night, cell);
    }

    public int dog(int night, int cell) {
        return putMark(dogs, night, cell);
    }

    public int back(int what) {
        if (!isUpTo(what, 1)) {
            return BAD;
        }
        Marks marks = what == 0 ? bowls : dogs;
        if (marks.number == 0) {
            return NOT;
        }
        marks.number--;
        stale = true;
        return marks.number;
    }

    public int read(int s) {
        if (!isUpTo(s, SHEETS - 1)) {
            return BAD;
        }
        Sheet sheet = sheets[s];
        if (sheet.lost) {
            return found(FINDING_NULL);
        }
        int pairs = sheet.size / 2;
        int came = 0;
        while (came < pairs && putMark(bowls, sheet.items[2 * came], sheet.items[2 * came + 1]) > 0) {
            came++;
        }
        return came;
    }

    private int putMark(Marks marks, int night, int cell) {
        if (!isNight(night) || !isUpTo(cell, CELLS - 1)) {
            return BAD;
        }
        if (!marks.append(night, cell, 0)) {
            return FULL;
        }
        stale = true;
        return marks.number;
    }

    private void understand(int text) {
        if (text == 0) {
            land.understand(texts[0]);
            stale = true;
        } else {
            houses.understand(texts[1]);
        }
    }

    // ---- nights

    public int at(int night, int steps) {
        if (!isNight(night) || !isUpTo(steps, STEPS)) {
            return BAD;
        }
        return told().trackAt(night, steps);
    }

    public int goes(int night) {
        return isNight(night) ? told().gone[night] : BAD;
    }

    public int line(int night, int column) {
        if (!isNight(night) || !isUpTo(column, land.columns - 1)) {
            return BAD;
        }
        return told().lines[night * SIDE + column];
    }

    public int realm(int night, int cell) {
        if (!isNight(night) || !isUpTo(cell, land.cells - 1)) {
            return BAD;
        }
        return told().realmOf(night, cell);
    }

    public int lies(int night, int house) {
        if (!isNight(night) || !isHouse(house)) {
            return BAD;
        }
        return told().realmOf(night, houses.places[house]);
    }

    public int changes(int house) {
        if (!isHouse(house)) {
            return BAD;
        }
        Walker known = told();
        int place = houses.places[house];
        int times = 0;
        for (int night = 1; night < NIGHTS; night++) {
            if (known.realmOf(night, place) != known.realmOf(night - 1, place)) {
                times++;
            }
        }
        return times;
    }

    public int taxes(int night, int realm) {
        if (!isNight(night) || !isUpTo(realm, 1)) {
            return BAD;
        }
        Walker known = told();
        int sum = 0;
        for (int n = 0; n <= night; n++) {
            for (int h = 0; h < houses.number; h++) {
                if (known.realmOf(n, houses.places[h]) == realm) {
                    sum += houses.dues[h];
                }
            }
        }
        return sum;
    }

    public int first(int what) {
        if (!isUpTo(what, 1)) {
            return BAD;
        }
        Walker known = told();
        for (int night = 0; night < NIGHTS; night++) {
            for (int h = 0; h < houses.number; h++) {
                if (known.realmOf(night, houses.places[h]) == COMMON) {
                    return what == 0 ? night : h;
                }
            }
        }
        return NONE;
    }

    /** Walks are worked out again only after something changed that they hang on. */
    private Walker told() {
        if (stale) {
            walks.walkNights(NIGHTS - 1);
            stale = false;
        }
        return walks;
    }

    // ---- plans

    public int layOut(int night, int house, int realm, int i) {
        if (!isQuestion(night, house, realm) || i < NONE || i > 1) {
            return BAD;
        }
        planBowls(night, house, realm);
        return laid.told(i);
    }

    public int rake(int night, int house, int realm) {
        if (!isQuestion(night, house, realm)) {
            return BAD;
        }
        trial.becomeLike(walks);
        for (int c = 0; c < land.cells; c++) {
            if (land.kinds[c] == OPEN) {
                trial.raked = c;
                trial.walkNights(night);
                if (trial.realmOf(night, houses.places[house]) == realm) {
                    return c;
                }
            }
        }
        return NONE;
    }

    public int live(int realm, int what) {
        if (!isUpTo(realm, REALMS - 1) || !isUpTo(what, 1)) {
            return BAD;
        }
        Walker known = told();
        int best = NONE;
        int most = NONE;
        for (int c = 0; c < land.cells; c++) {
            if (land.kinds[c] != WALL && !houses.standOn(c)) {
                int nights = known.nightsIn(realm, c);
                if (nights > most) {
                    best = c;
                    most = nights;
                }
            }
        }
        return what == 0 ? best : most;
    }

    private void planBowls(int night, int house, int realm) {
        int place = houses.places[house];
        laid.number = NONE;
        trial.becomeLike(walks);
        trial.walkNights(night);
        if (trial.realmOf(night, place) == realm) {
            laid.number = 0;
        } else if (place < land.cells && night < trial.frost) {
            planOne(night, place, realm);
            if (laid.number == NONE) {
                planTwo(night, place, realm);
            }
        }
    }

    private void planOne(int night, int place, int realm) {
        for (int a = 0; a < land.cells; a++) {
            if (trial.isDrawnBy(a, NONE, night, place, realm)) {
                laid.number = 1;
                laid.one = a;
                return;
            }
        }
    }

    private void planTwo(int night, int place, int realm) {
        for (int a = 0; a < land.cells; a++) {
            for (int b = a; b < land.cells; b++) {
                if (trial.isDrawnBy(a, b, night, place, realm)) {
                    laid.number = 2;
                    laid.one = a;
                    laid.two = b;
                    return;
                }
            }
        }
    }

    // ---- seen, cats, roaming

    public int seen(int night, int house, int realm) {
        if (!isNight(night) || !isUpTo(house, MOST - 1) || !isUpTo(realm, REALMS - 1)) {
            return BAD;
        }
        return sights.append(night, house, realm) ? sights.number : FULL;
    }

    public int forget() {
        int had = sights.number;
        sights.number = 0;
        return had;
    }

    public int never() {
        int bits = 0;
        trial.becomeLike(walks);
        for (int i = 0; i < bowls.number; i++) {
            trial.present = ~(1 << i);
            trial.walkNights(NIGHTS - 1);
            if (agreesWithSights()) {
                bits |= 1 << i;
            }
        }
        return bits;
    }

    public int began() {
        int bits = 0;
        trial.becomeLike(walks);
        for (int start = 0; start < SIDE; start++) {
            trial.start = start;
            trial.walkNights(NIGHTS - 1);
            if (agreesWithSights()) {
                bits |= 1 << start;
            }
        }
        return bits;
    }

    public int ask(int night) {
        if (!isNight(night)) {
            return BAD;
        }
        tallyStarts(night);
        int best = NONE;
        int least = NONE;
        for (int h = 0; h < houses.number; h++) {
            int most = 0;
            for (int r = 0; r <= REALMS; r++) {
                most = Math.max(most, tally[h * (REALMS + 1) + r]);
            }
            if (best == NONE || most < least) {
                best = h;
                least = most;
            }
        }
        return best;
    }

    public long cat(int c, int night, int house, int realm, int what) {
        if (!isUpTo(c, CHANCES) || !isQuestion(night, house, realm) || !isUpTo(what, 1)) {
            return LEAST_LONG - BAD;
        }
        weighChances(c, night, realm);
        chances.reduce(house);
        return what == 0 ? chances.above : chances.below;
    }

    public int roam(int seed, int n, int what) {
        if (!isUpTo(n, ROAM_STEPS) || !isUpTo(what, 1)) {
            return BAD;
        }
        int here = walks.firstCell();
        if (here == NONE) {
            return what == 0 ? NONE : 0;
        }
        int lot = seed;
        long been = 1L << here;
        for (int i = 0; i < n; i++) {
            int ways = land.ways[here];
            if (ways > 0) {
                lot = 1103515245 * lot + 12345;
                here = land.beside[here * WAYS + (lot >>> 16) % ways];
                been |= 1L << here;
            }
        }
        return what == 0 ? here : Long.bitCount(been);
    }

    /** Whether all that was seen comes out so by the trial's latest walks. */
    private boolean agreesWithSights() {
        for (int i = 0; i < sights.number; i++) {
            int h = sights.things[i];
            if (h >= houses.number || trial.realmOf(sights.nights[i], houses.places[h]) != sights.realms[i]) {
                return false;
            }
        }
        return true;
    }

    private void tallyStarts(int night) {
        Arrays.fill(tally, 0);
        trial.becomeLike(walks);
        for (int start = 0; start < SIDE; start++) {
            trial.start = start;
            trial.walkNights(NIGHTS - 1);
            if (agreesWithSights()) {
                for (int h = 0; h < houses.number; h++) {
                    int r = trial.realmOf(night, houses.places[h]);
                    tally[h * (REALMS + 1) + (r == NONE ? REALMS : r)]++;
                }
            }
        }
    }

    /** For all houses at once: what is dear is the walks, and they are the same for each. */
    private void weighChances(int c, int night, int realm) {
        int matter = bowlsThatMatter(night);
        int many = Integer.bitCount(matter);
        Arrays.fill(chances.shares, 0);
        chances.whole = power(CHANCES, many);
        trial.becomeLike(walks);
        for (int some = 0; some < 1 << MOST; some++) {
            int there = Integer.bitCount(some);
            if ((some & ~matter) == 0) {
                trial.present = some;
                shareOut(power(c, there) * power(CHANCES - c, many - there), night, realm);
            }
        }
    }

    private void shareOut(long weight, int night, int realm) {
        if (weight == 0) {
            return;
        }
        trial.walkNights(night);
        for (int h = 0; h < houses.number; h++) {
            if (trial.realmOf(night, houses.places[h]) == realm) {
                chances.shares[h] += weight;
            }
        }
    }

    /** Bowls that cannot draw it up to a night would only double the work of a chance. */
    private int bowlsThatMatter(int night) {
        int bits = 0;
        for (int i = 0; i < bowls.number; i++) {
            if (bowls.nights[i] <= night && bowls.nights[i] < walks.frost && bowls.things[i] < land.cells) {
                bits |= 1 << i;
            }
        }
        return bits;
    }

    // ---- sheets

    public int sheet(int s, int form, int n) {
        if (!isUpTo(s, SHEETS - 1) || !isUpTo(form, FORMS - 1) || n > ITEMS) {
            return BAD;
        }
        if (n < 0) {
            return found(FINDING_SIZE);
        }
        sheets[s].begin(form, n);
        return n;
    }

    public int lose(int s) {
        if (!isUpTo(s, SHEETS - 1)) {
            return BAD;
        }
        if (sheets[s].lost) {
            return found(FINDING_NULL);
        }
        sheets[s].lost = true;
        return sheets[s].size;
    }

    public int lay(int s, int form, int i, int v) {
        if (!isUpTo(s, SHEETS - 1) || !isUpTo(form, FORMS - 1)) {
            return BAD;
        }
        int wrong = sheets[s].wrongWith(form, i);
        if (wrong != 0) {
            return found(wrong);
        }
        sheets[s].keep(i, v);
        return 1;
    }

    public int get(int s, int form, int i) {
        if (!isUpTo(s, SHEETS - 1) || !isUpTo(form, FORMS - 1)) {
            return LEAST_INT;
        }
        int wrong = sheets[s].wrongWith(form, i);
        if (wrong != 0) {
            finding = wrong;
            return LEAST_INT;
        }
        return sheets[s].items[i];
    }

    public int copy(int s, int i, int t, int j, int n) {
        if (!isUpTo(s, SHEETS - 1) || !isUpTo(t, SHEETS - 1)) {
            return BAD;
        }
        Sheet from = sheets[s];
        Sheet to = sheets[t];
        if (from.lost || to.lost) {
            return found(FINDING_NULL);
        }
        if (from.form != to.form) {
            return found(FINDING_STORE);
        }
        if (!from.hasItems(i, n) || !to.hasItems(j, n)) {
            return found(FINDING_INDEX);
        }
        System.arraycopy(from.items, i, to.items, j, n);
        return 1;
    }

    public int write(int night, int s) {
        if (!isNight(night) || !isUpTo(s, SHEETS - 1)) {
            return BAD;
        }
        Sheet sheet = sheets[s];
        if (sheet.lost) {
            return found(FINDING_NULL);
        }
        Walker known = told();
        int many = Math.min(sheet.size, TRACK);
        for (int k = 0; k < many; k++) {
            sheet.keep(k, known.trackAt(night, k));
        }
        return many;
    }

    public int count(int what) {
        switch (what) {
            case 0: return land.cells;
            case 1: return houses.number;
            case 2: return texts[0].length;
            case 3: return texts[1].length;
            case 4: return bowls.number;
            case 5: return dogs.number;
            case 6: return land.columns;
            case 7: return sights.number;
            case 8: return finding;
            default: return BAD;
        }
    }

    public long digest() {
        long h = 17;
        for (int what = 0; what < 8; what++) {
            h = mix(h, count(what));
        }
        h = mix(mix(h, fault(0)), fault(1));
        for (int c = 0; c < land.cells; c++) {
            h = mix(mix(mix(h, cell(c)), realm(0, c)), realm(9, c));
        }
        weighChances(5, 4, 0);
        for (int it = 0; it < houses.number; it++) {
            h = mixHouse(h, it);
        }
        h = mixNight(mixNight(mixNight(h, 0), 3), 9);
        h = mix(mix(h, first(0)), first(1));
        h = mix(mix(h, live(0, 0)), live(0, 1));
        h = mix(mix(h, live(1, 0)), live(1, 1));
        h = mix(mix(h, never()), began());
        return mix(mix(h, roam(7, 20, 0)), roam(7, 20, 1));
    }

    /** A plan is worked out once for both of its parts; the chances have been weighed ahead, for all houses. */
    private long mixHouse(long before, int it) {
        long h = mix(mix(before, house(it, 0)), house(it, 1));
        h = mix(mix(h, lies(0, it)), lies(9, it));
        h = mix(h, changes(it));
        planBowls(3, it, 0);
        h = mix(mix(h, laid.told(NONE)), laid.told(0));
        h = mix(h, rake(3, it, 1));
        chances.reduce(it);
        return mix(mix(h, chances.above), chances.below);
    }

    private long mixNight(long before, int night) {
        long h = mix(mix(before, at(night, 3)), at(night, 24));
        h = mix(mix(h, goes(night)), ask(night));
        h = mix(mix(h, taxes(night, 0)), taxes(night, 1));
        for (int column = 0; column < land.columns; column++) {
            h = mix(h, line(night, column));
        }
        return h;
    }

    private int found(int number) {
        finding = number;
        return -10 - number;
    }

    private boolean isHouse(int house) {
        return isUpTo(house, houses.number - 1);
    }

    private boolean isQuestion(int night, int house, int realm) {
        return isNight(night) && isHouse(house) && isUpTo(realm, REALMS - 1);
    }

    private static boolean isNight(int night) {
        return isUpTo(night, NIGHTS - 1);
    }

    private static boolean isUpTo(int v, int most) {
        return v >= 0 && v <= most;
    }

    private static long mix(long h, long v) {
        return 31 * h + v;
    }

    private static long power(long of, int times) {
        long product = 1;
        for (int i = 0; i < times; i++) {
            product *= of;
        }
        return product;
    }

    /** Bytes as they were typed, well or not. */
    private static final class Text {
        private final int[] bytes;
        private int length;

        private Text(int most) {
            bytes = new int[most];
            length = 0;
        }

        private boolean append(int b) {
            if (length >= bytes.length) {
                return false;
            }
            bytes[length] = b;
            length++;
            return true;
        }
    }

    /** What the land's text tells; with a flaw there is no land. */
    private static final class Land {
        private final int[] kinds = new int[CELLS];
        private final int[] rowAt = new int[CELLS];
        private final int[] columnAt = new int[CELLS];
        private final int[] ways = new int[CELLS];
        private final int[] beside = new int[CELLS * WAYS];
        private int flaw = NONE;
        private int cells = 0;
        private int columns = 0;
        private int rows = 0;

        private void understand(Text text) {
            becomeEmpty();
            flaw = text.length == 0 ? NONE : gather(text);
            if (flaw != NONE) {
                becomeEmpty();
            }
            for (int c = 0; c < cells; c++) {
                findWays(c);
            }
        }

        private void becomeEmpty() {
            cells = 0;
            columns = 0;
            rows = 0;
        }

        /** Takes rows in up to the first byte that does not fit, and tells its place. */
        private int gather(Text text) {
            int inRow = 0;
            for (int i = 0; i < text.length; i++) {
                int b = text.bytes[i];
                if (b == ';') {
                    if (inRow == 0 || inRow < columns) {
                        return i;
                    }
                    endRow(inRow);
                    inRow = 0;
                } else {
                    int kind = kindOf(b);
                    int widest = rows == 0 ? SIDE : columns;
                    if (kind == NONE || rows >= SIDE || inRow >= widest || cells >= CELLS) {
                        return i;
                    }
                    kinds[cells] = kind;
                    rowAt[cells] = rows;
                    columnAt[cells] = inRow;
                    cells++;
                    inRow++;
                }
            }
            if (inRow == 0 || inRow < columns) {
                return text.length;
            }
            endRow(inRow);
            return NONE;
        }

        private void endRow(int inRow) {
            columns = inRow;
            rows++;
        }

        private void findWays(int c) {
            ways[c] = 0;
            if (columnAt[c] + 1 < columns) {
                openWay(c, c + 1);
            }
            if (c + columns < cells) {
                openWay(c, c + columns);
            }
            if (c >= columns) {
                openWay(c, c - columns);
            }
            if (columnAt[c] > 0) {
                openWay(c, c - 1);
            }
        }

        private void openWay(int c, int next) {
            if (kinds[next] != WALL && ways[c] < WAYS) {
                beside[c * WAYS + ways[c]] = next;
                ways[c]++;
            }
        }

        private static int kindOf(int b) {
            switch (b) {
                case '.': return OPEN;
                case '#': return WALL;
                case 'l': return LEAVES;
                case 'w': return WORMS;
                default: return NONE;
            }
        }
    }

    /** What the houses' text tells; with a flaw there are no houses. */
    private static final class Houses {
        private final int[] places = new int[MOST];
        private final int[] dues = new int[MOST];
        private int flaw = NONE;
        private int number = 0;

        private void understand(Text text) {
            number = 0;
            flaw = findFlaw(text);
            if (flaw != NONE) {
                return;
            }
            int many = (text.length + 1) / HOUSE_SIGNS;
            for (int h = 0; h < many && h < MOST; h++) {
                int i = h * HOUSE_SIGNS;
                places[h] = 10 * (text.bytes[i] - '0') + text.bytes[i + 1] - '0';
                dues[h] = text.bytes[i + 2] - '0';
                number++;
            }
        }

        private boolean standOn(int c) {
            for (int h = 0; h < number; h++) {
                if (places[h] == c) {
                    return true;
                }
            }
            return false;
        }

        private static int findFlaw(Text text) {
            for (int i = 0; i < text.length; i++) {
                if (i >= MOST * HOUSE_SIGNS || !fits(text.bytes[i], i % HOUSE_SIGNS)) {
                    return i;
                }
            }
            boolean ended = text.length == 0 || text.length % HOUSE_SIGNS == HOUSE_SIGNS - 1;
            return ended ? NONE : text.length;
        }

        private static boolean fits(int b, int sign) {
            if (sign == HOUSE_SIGNS - 1) {
                return b == ';';
            }
            return b >= '0' && b <= (sign == 0 ? '3' : '9');
        }
    }

    /** Bowls, dogs (nights and cells) or what was seen (nights, houses, realms). */
    private static final class Marks {
        private final int[] nights = new int[MOST];
        private final int[] things = new int[MOST];
        private final int[] realms = new int[MOST];
        private int number = 0;

        private boolean append(int night, int thing, int realm) {
            if (number >= MOST) {
                return false;
            }
            nights[number] = night;
            things[number] = thing;
            realms[number] = realm;
            number++;
            return true;
        }
    }

    /** All nights under one supposition: a start, a frost, bowls that are present, a cell raked. */
    private static final class Walker {
        private final Land land;
        private final Marks bowls;
        private final Marks dogs;
        private final int[] steady = new int[CELLS];
        private final int[] fresh = new int[CELLS];
        private final int[] track = new int[NIGHTS * TRACK];
        private final int[] gone = new int[NIGHTS];
        private final long[] trodden = new long[NIGHTS];
        private final int[] lines = new int[NIGHTS * SIDE];
        private int start = 0;
        private int frost = NIGHTS;
        private int present = NONE;
        private int raked = NONE;

        private Walker(Land land, Marks bowls, Marks dogs) {
            this.land = land;
            this.bowls = bowls;
            this.dogs = dogs;
        }

        private void becomeLike(Walker other) {
            start = other.start;
            frost = other.frost;
            present = other.present;
            raked = other.raked;
        }

        private void walkNights(int last) {
            for (int night = 0; night <= last && night < NIGHTS; night++) {
                weigh(night);
                stroll(night);
            }
        }

        /** Walks the latest weighed night again, with one or two bowls more for this once. */
        private boolean isDrawnBy(int a, int b, int night, int place, int realm) {
            fresh[a] += BOWL_WORTH;
            if (b != NONE) {
                fresh[b] += BOWL_WORTH;
            }
            stroll(night);
            fresh[a] -= BOWL_WORTH;
            if (b != NONE) {
                fresh[b] -= BOWL_WORTH;
            }
            return realmOf(night, place) == realm;
        }

        /** Parts what a cell is worth at any time from what it is worth only once in a night. */
        private void weigh(int night) {
            long ahead = night > 0 ? trodden[night - 1] : 0;
            for (int c = 0; c < land.cells; c++) {
                int kind = c == raked ? LEAVES : land.kinds[c];
                steady[c] = kind == LEAVES ? LEAVES_WORTH : 0;
                if ((ahead >>> c & 1) == 1) {
                    steady[c] += AGAIN_WORTH;
                }
                fresh[c] = kind == WORMS ? WORMS_WORTH : 0;
            }
            for (int i = 0; i < bowls.number; i++) {
                if ((present >> i & 1) == 1 && bowls.nights[i] == night && bowls.things[i] < land.cells) {
                    fresh[bowls.things[i]] += BOWL_WORTH;
                }
            }
            for (int i = 0; i < dogs.number; i++) {
                if (dogs.nights[i] == night && dogs.things[i] < land.cells) {
                    steady[dogs.things[i]] -= DOG_WORTH;
                }
            }
        }

        private void stroll(int night) {
            inheritLine(night);
            int here = night < frost ? firstCell() : NONE;
            int from = NONE;
            long been = 0;
            for (int steps = 0; steps <= STEPS; steps++) {
                track[night * TRACK + steps] = here;
                gone[night] = steps;
                if (here == NONE) {
                    break;
                }
                been |= 1L << here;
                lines[night * SIDE + land.columnAt[here]] = land.rowAt[here];
                int next = land.columnAt[here] < land.columns - 1 ? choose(here, from, been) : NONE;
                if (next == NONE) {
                    break;
                }
                from = here;
                here = next;
            }
            trodden[night] = been;
        }

        private void inheritLine(int night) {
            for (int column = 0; column < land.columns; column++) {
                int here = night * SIDE + column;
                lines[here] = night > 0 ? lines[here - SIDE] : land.rows / 2;
            }
        }

        /** The way back is taken only where there is no other, so it is left out of the choice. */
        private int choose(int here, int from, long been) {
            int best = NONE;
            int most = 0;
            for (int k = 0; k < land.ways[here]; k++) {
                int c = land.beside[here * WAYS + k];
                int worth = (been >>> c & 1) == 1 ? steady[c] : steady[c] + fresh[c];
                if (c != from && (best == NONE || worth > most)) {
                    best = c;
                    most = worth;
                }
            }
            return best == NONE ? from : best;
        }

        private int firstCell() {
            if (start >= land.rows) {
                return NONE;
            }
            int c = start * land.columns;
            return land.kinds[c] == WALL ? NONE : c;
        }

        private int trackAt(int night, int steps) {
            return track[night * TRACK + Math.min(steps, gone[night])];
        }

        private int realmOf(int night, int place) {
            if (place >= land.cells) {
                return NONE;
            }
            int row = land.rowAt[place];
            int border = lines[night * SIDE + land.columnAt[place]];
            if (row == border) {
                return COMMON;
            }
            return row < border ? 0 : 1;
        }

        private int nightsIn(int realm, int place) {
            int nights = 0;
            for (int night = 0; night < NIGHTS; night++) {
                if (realmOf(night, place) == realm) {
                    nights++;
                }
            }
            return nights;
        }
    }

    /** The latest plan of bowls. */
    private static final class Laid {
        private int number = NONE;
        private int one = NONE;
        private int two = NONE;

        private int told(int i) {
            if (i == NONE) {
                return number;
            }
            if (i >= number) {
                return NONE;
            }
            return i == 0 ? one : two;
        }
    }

    /** Each house's share of the whole, and that of one house in lowest terms. */
    private static final class Chances {
        private final long[] shares = new long[MOST];
        private long whole = 1;
        private long above = 0;
        private long below = 1;

        /** The whole is a power of two, so halving is all that lowers a fraction of it. */
        private void reduce(int house) {
            above = shares[house];
            below = whole;
            for (int i = 0; i < FRACTION_BITS && below > 1 && above % 2 == 0; i++) {
                above /= 2;
                below /= 2;
            }
        }
    }

    /** A row of items; each is held as an int that its form could hold. */
    private static final class Sheet {
        private final int[] items = new int[ITEMS];
        private boolean lost = true;
        private int form = 0;
        private int size = 0;

        private void begin(int newForm, int n) {
            lost = false;
            form = newForm;
            size = n;
            Arrays.fill(items, 0);
        }

        private int wrongWith(int asForm, int i) {
            if (lost) {
                return FINDING_NULL;
            }
            if (form != asForm) {
                return FINDING_CAST;
            }
            return i < 0 || i >= size ? FINDING_INDEX : 0;
        }

        private boolean hasItems(int i, int n) {
            return i >= 0 && n >= 0 && n <= size && i <= size - n;
        }

        private void keep(int i, int v) {
            if (form == 0) {
                items[i] = (byte) v;
            } else if (form == 1) {
                items[i] = (short) v;
            } else {
                items[i] = v;
            }
        }
    }
}
