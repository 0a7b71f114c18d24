import java.math.BigInteger;
import java.util.HashSet;
import java.util.Set;

/** The sentences on what was seen, cats and roaming that name a boundary, each by a test of its own. */
public final class SeenEdgesTest {
    private static final Check CHECK = new Check("SeenEdgesTest");
    private static final int NONE = -1, BAD = -2, FULL = -4;
    private static final int LEAST = Integer.MIN_VALUE, GREATEST = Integer.MAX_VALUE;
    private static final int[] ENDS = {LEAST, LEAST + 1, GREATEST - 1, GREATEST};
    private static final int[] SEEDS = {LEAST, LEAST + 1, -65536, -1, 0, 1, 7, 65535, 65536, GREATEST - 1, GREATEST};

    private SeenEdgesTest() {
    }

    public static void main(String[] args) {
        seenEightAtMost();
        forgetNoneToEight();
        aHouseThatThereIsNotWasNever();
        aHouseThatIsNowhereWasNever();
        nothingSeenComesOutSo();
        neverOfEachBowl();
        neverOfEachAlone();
        neverOfTheLastNight();
        neverOfNoBowls();
        beganOfEachStart();
        beganBeyondTheRows();
        beganLeavesStart();
        allThatWasSeen();
        askOfEachNight();
        askOfLikeOnesTheLeast();
        askOfNowhere();
        askOfNone();
        askAgreesWithStarts();
        catBy0To16Sixteenths();
        catOfNoBowls();
        catToldAs0By1();
        catInLowestTerms();
        catOfEightBowls();
        catUpToItsNight();
        catOfAllRealms();
        catAgreesWithEachWay();
        roam0To60Steps();
        roamFromNoCell();
        roamWithoutALot();
        roamOnHowManyCells();
        roamByAnySeed();
        CHECK.end();
    }

    private static void due(String what, long got, long want) {
        CHECK.due(what, got, want);
    }

    // ---- Promises 24 and 25

    private static void seenEightAtMost() {
        HedgehogBorder x = new HedgehogBorder();
        int n = 0;
        for (int night : new int[] {0, 9}) {
            for (int house : new int[] {0, 7}) {
                for (int realm : new int[] {0, 2}) {
                    n++;
                    due("SEEN " + n + ", no HOUSE is there", x.seen(night, house, realm), n);
                }
            }
        }
        due("a ninth", x.seen(1, 1, 1), FULL);
        due("eight", x.count(7), 8);
        HedgehogBorder y = new HedgehogBorder();
        for (int bad : ENDS) {
            due("seen(" + bad + ", 0, 0)", y.seen(bad, 0, 0), BAD);
            due("seen(0, " + bad + ", 0)", y.seen(0, bad, 0), BAD);
            due("seen(0, 0, " + bad + ")", y.seen(0, 0, bad), BAD);
        }
        due("none", y.count(7), 0);
    }

    private static void forgetNoneToEight() {
        HedgehogBorder x = new HedgehogBorder();
        for (int n = 0; n <= 8; n++) {
            for (int i = 0; i < n; i++) {
                x.seen(i, i % 8, i % 3);
            }
            due("forget " + n, x.forget(), n);
            due("none is left", x.count(7), 0);
        }
        due("forget none", x.forget(), 0);
        due("room again", x.seen(0, 0, 0), 1);
    }

    private static void aHouseThatThereIsNotWasNever() {
        for (int realm = 0; realm < 3; realm++) {
            HedgehogBorder x = Check.with("..;..", "011;031");
            x.bowl(0, 2);
            x.seen(0, 2, realm);
            due("no HOUSE 2: never()", x.never(), 0);
            due("no HOUSE 2: began()", x.began(), 0);
            x.forget();
            x.seen(9, 7, realm);
            due("no HOUSE 7: never()", x.never(), 0);
            due("no HOUSE 7: began()", x.began(), 0);
        }
        HedgehogBorder x = Check.with("..;..", "011");
        x.bowl(0, 2);
        x.seen(0, 1, 1);
        due("HOUSE 1 is not there", x.never(), 0);
        Check.typed(x, 1, ";031");
        due("HOUSE 1 is there", x.never(), 1);
        x.undo(1);
        due("and gone with a FAULT", x.never(), 0);
    }

    private static void aHouseThatIsNowhereWasNever() {
        for (int realm = 0; realm < 3; realm++) {
            HedgehogBorder x = Check.with("..;..", "041");
            x.bowl(0, 2);
            x.seen(0, 0, realm);
            due("NOWHERE: never()", x.never(), 0);
            due("NOWHERE: began()", x.began(), 0);
            HedgehogBorder y = Check.with("..;", "001");
            y.bowl(0, 2);
            y.seen(0, 0, realm);
            due("no land: never()", y.never(), 0);
            due("no land: began()", y.began(), 0);
        }
    }

    // ---- Promises 26 and 27

    private static void nothingSeenComesOutSo() {
        HedgehogBorder x = new HedgehogBorder();
        due("no land: began()", x.began(), 63);
        for (int n = 1; n <= 8; n++) {
            x.bowl(n, n);
            due(n + " BOWLS: never()", x.never(), (1 << n) - 1);
        }
    }

    private static void neverOfEachBowl() {
        // One of eight BOWLS draws it to ROW 1 in its NIGHT, the others do nothing.
        for (int one = 0; one < 8; one++) {
            HedgehogBorder x = Check.with("..;..", "011");
            for (int i = 0; i < 8; i++) {
                x.bowl(i, i == one ? 2 : 0);
            }
            x.seen(one, 0, 2);
            due("BOWL " + one + " never was", x.never(), 1 << one);
            x.forget();
            x.seen(one, 0, 0);
            due("BOWL " + one + " was", x.never(), 255 - (1 << one));
        }
    }

    private static void neverOfEachAlone() {
        HedgehogBorder x = Check.with("..;..", "011");
        x.bowl(0, 2);
        x.bowl(0, 2);
        x.seen(0, 0, 2);
        due("two on one CELL: not by one alone", x.never(), 0);
        x.forget();
        x.seen(0, 0, 0);
        due("either may be left out", x.never(), 3);
        x.dog(0, 2);
        due("neither may", x.never(), 0);
        due("BOWLS stay", x.count(4), 2);
        due("it walks as it did", x.at(0, 1), 2);
    }

    private static void neverOfTheLastNight() {
        for (int night = 0; night < 10; night++) {
            HedgehogBorder x = Check.with("..;..", "011");
            x.bowl(night, 2);
            x.seen(night, 0, 2);
            due("the BOWL of NIGHT " + night + " never was", x.never(), 1);
            x.seen(night, 0, 0);
            due("it was and was not", x.never(), 0);
        }
    }

    private static void neverOfNoBowls() {
        HedgehogBorder x = Check.with("..;..", "011");
        due("nothing seen", x.never(), 0);
        x.seen(0, 0, 2);
        due("what is so", x.never(), 0);
    }

    private static void beganOfEachStart() {
        HedgehogBorder x = Check.with(States.WIDEST, "001;061;121;181;241;301");
        for (int start = 0; start < 6; start++) {
            x.seen(9, start, 2);
            due("COMMON: from ROW " + start, x.began(), 1 << start);
            x.forget();
            x.seen(9, start, 0);
            due("REALM 0: from ROWS behind " + start, x.began(), 63 - ((2 << start) - 1));
            x.forget();
            x.seen(9, start, 1);
            due("REALM 1: from ROWS ahead of " + start, x.began(), (1 << start) - 1);
            x.forget();
        }
    }

    private static void beganBeyondTheRows() {
        // From ROWS that there are not it does not walk: the line stays on half of all ROWS.
        for (int rows = 1; rows <= 6; rows++) {
            HedgehogBorder x = Check.with("..;".repeat(rows).replaceAll(";$", ""), "001");
            x.seen(0, 0, 2);
            int want = 1;
            for (int start = rows; start < 6; start++) {
                want |= rows / 2 == 0 ? 1 << start : 0;
            }
            due(rows + " ROWS, CELL 0 is COMMON", x.began(), want);
            x.forget();
            x.seen(0, 0, 0);
            due(rows + " ROWS, CELL 0 is in REALM 0", x.began(), 63 - want);
        }
        HedgehogBorder y = Check.with("..;#.;..", "031");
        y.seen(0, 0, 2);
        due("from a wall it does not walk", y.began(), 2 + 8 + 16 + 32);
    }

    private static void beganLeavesStart() {
        HedgehogBorder x = Check.with(States.WIDEST, "001");
        x.set(0, 4);
        due("began()", x.began(), 63);
        due("it begins where it did", x.at(0, 0), 24);
        due("START stays", x.set(0, 4), 4);
    }

    private static void allThatWasSeen() {
        HedgehogBorder x = Check.with(States.WIDEST, "001;061;121;181;241;301");
        x.seen(0, 1, 0);
        due("ROWS 2 to 5", x.began(), 60);
        x.seen(0, 4, 1);
        due("ROWS 2 and 3", x.began(), 12);
        for (int i = 0; i < 5; i++) {
            x.seen(i, 4, 1);
        }
        due("the same again", x.began(), 12);
        x.seen(9, 3, 2);
        due("by the eighth: ROW 3", x.began(), 8);
        x.seen(9, 0, 1);
        due("a ninth is refused", x.began(), 8);
        x.forget();
        x.seen(0, 3, 2);
        x.seen(0, 3, 1);
        due("cannot be", x.began(), 0);
    }

    // ---- Promise 28

    private static void askOfEachNight() {
        HedgehogBorder x = Check.with("..;..;..", "391;031");
        for (int night = 0; night < 10; night++) {
            due("ask(" + night + ")", x.ask(night), 1);
        }
        for (int bad : new int[] {LEAST, -1, 10, GREATEST}) {
            due("ask(" + bad + ")", x.ask(bad), BAD);
        }
        // By the BOWL in NIGHT 5 HOUSE 0 on CELL 1 parts START 0 no longer from the others.
        HedgehogBorder y = Check.with("..;..;..", "011;391");
        due("ahead of it", y.ask(4), 0);
        y.bowl(5, 2);
        due("NIGHT 4 stays", y.ask(4), 0);
        due("all starts in one REALM: of like ones the least", y.ask(5), 0);
        y.wipe(1);
        Check.typed(y, 1, "391;011");
        due("NIGHT 4: HOUSE 1", y.ask(4), 1);
        due("NIGHT 5: both six", y.ask(5), 0);
    }

    private static void askOfLikeOnesTheLeast() {
        HedgehogBorder x = Check.with(States.WIDEST, "121;181;121;181;121;181;121;181");
        // CELL 12: 1 by START 0 and 1, COMMON by 2, 0 by 3, 4, 5: three; CELL 18: three too.
        due("eight alike", x.ask(0), 0);
        HedgehogBorder y = Check.with(States.WIDEST, "001;001;001;001;001;001;001;121");
        due("the last of eight", y.ask(0), 7);
        y.seen(0, 7, 0);
        // STARTS 3, 4, 5 are left: all are alike.
        due("of those STARTS", y.ask(0), 0);
    }

    private static void askOfNowhere() {
        HedgehogBorder x = Check.with(States.WIDEST, "361;391;001");
        // NOWHERE by six, CELL 0 in REALM 0 by five.
        due("NOWHERE is as a REALM", x.ask(0), 2);
        HedgehogBorder y = Check.with("", "001;011");
        due("all are NOWHERE", y.ask(0), 0);
    }

    private static void askOfNone() {
        due("no HOUSES", Check.with("..", "").ask(0), NONE);
        due("no HOUSES, no land", new HedgehogBorder().ask(9), NONE);
        due("HOUSES with a FAULT", Check.with("..", "001;").ask(0), NONE);
        HedgehogBorder x = Check.with("..;..", "011;031");
        x.seen(0, 7, 0);
        due("no START is left: each number is 0, the least HOUSE", x.ask(0), 0);
    }

    private static int askByStarts(String land, String houses, int night, int[] sight) {
        int best = NONE;
        int least = 99;
        for (int h = 0; h < (houses.length() + 1) / 4; h++) {
            int[] tally = new int[4];
            for (int start = 0; start < 6; start++) {
                HedgehogBorder x = Check.with(land, houses);
                x.bowl(1, 2);
                x.set(0, start);
                if (x.lies(sight[0], sight[1]) == sight[2]) {
                    tally[x.lies(night, h) + 1]++;
                }
            }
            int most = Math.max(Math.max(tally[0], tally[1]), Math.max(tally[2], tally[3]));
            if (most < least) {
                least = most;
                best = h;
            }
        }
        return best;
    }

    private static void askAgreesWithStarts() {
        for (String land : new String[] {"..;..;..", "...;.l.;...;#..", ".;.;.;.;.;.", "..w;#..;l..;.#.;..."}) {
            String houses = "051;021;391;081;001;031";
            for (int k = 0; k < 36; k++) {
                int[] sight = {k % 2, k / 3 % 6, k % 3};
                HedgehogBorder x = Check.with(land, houses);
                x.bowl(1, 2);
                x.seen(sight[0], sight[1], sight[2]);
                due("ask of " + land + ", " + k, x.ask(k % 10), askByStarts(land, houses, k % 10, sight));
            }
        }
    }

    // ---- Promise 29

    private static void chance(String what, HedgehogBorder x, int c, int night, int realm, long above, long below) {
        due(what + ": above", x.cat(c, night, 0, realm, 0), above);
        due(what + ": below", x.cat(c, night, 0, realm, 1), below);
    }

    private static void catBy0To16Sixteenths() {
        HedgehogBorder x = Check.with("..;..", "011");
        x.bowl(0, 2);
        for (int c = 0; c <= 16; c++) {
            int g = c == 0 ? 16 : Integer.lowestOneBit(c);
            chance(c + " sixteenths", x, c, 0, 0, c / g, 16 / g);
            int r = 16 - c;
            int f = r == 0 ? 16 : Integer.lowestOneBit(r);
            chance(c + " sixteenths, else", x, c, 0, 2, r / f, 16 / f);
        }
        for (int bad : new int[] {LEAST, -1, 17, GREATEST}) {
            due("cat(" + bad + ", ..)", x.cat(bad, 0, 0, 0, 0), Check.LONG_BAD);
        }
        for (int bad : new int[] {LEAST, -1, 2, GREATEST}) {
            due("cat(.., what " + bad + ")", x.cat(0, 0, 0, 0, bad), Check.LONG_BAD);
        }
    }

    private static void catOfNoBowls() {
        HedgehogBorder x = Check.with("..;..", "011");
        for (int c : new int[] {0, 1, 8, 15, 16}) {
            chance("no BOWLS, COMMON", x, c, 9, 2, 1, 1);
            chance("no BOWLS, REALM 0", x, c, 9, 0, 0, 1);
        }
    }

    private static void catToldAs0By1() {
        HedgehogBorder x = Check.with("..;..", "041");
        x.bowl(0, 2);
        for (int realm = 0; realm < 3; realm++) {
            chance("NOWHERE", x, 7, 0, realm, 0, 1);
            chance("no land", Check.with("", "001"), 7, 0, realm, 0, 1);
        }
        HedgehogBorder y = Check.with("..;..", "011");
        for (int i = 0; i < 8; i++) {
            y.bowl(i, 2);
        }
        chance("never REALM 1", y, 7, 9, 1, 0, 1);
        chance("never by 0 sixteenths", y, 0, 9, 0, 0, 1);
        chance("always by 16", y, 16, 9, 0, 1, 1);
    }

    private static void catInLowestTerms() {
        HedgehogBorder x = Check.with("..;..", "011");
        x.bowl(0, 2);
        x.bowl(0, 2);
        chance("8: 1 less 1 by 4", x, 8, 0, 0, 3, 4);
        chance("4: 1 less 9 by 16", x, 4, 0, 0, 7, 16);
        chance("4, else", x, 4, 0, 2, 9, 16);
        chance("1: 1 less 225 by 256", x, 1, 0, 0, 31, 256);
        chance("15", x, 15, 0, 0, 255, 256);
        chance("15, else", x, 15, 0, 2, 1, 256);
    }

    private static void catOfEightBowls() {
        HedgehogBorder x = Check.with("..;..", "011");
        for (int i = 0; i < 8; i++) {
            x.bowl(0, 2);
        }
        long whole = 1L << 32;
        chance("15, none of eight is there", x, 15, 0, 2, 1, whole);
        chance("15, one of eight is there", x, 15, 0, 0, whole - 1, whole);
        chance("8, none of eight", x, 8, 0, 2, 1, 256);
        chance("1, none of eight", x, 1, 0, 2, 2562890625L, whole);
        for (int i = 0; i < 6; i++) {
            x.dog(0, 2);
        }
        // Six dogs are 30: all eight bowls are 32.
        chance("1, all of eight", x, 1, 0, 0, 1, whole);
        chance("3, all of eight", x, 3, 0, 0, 6561, whole);
        x.dog(0, 2);
        chance("seven dogs: never", x, 15, 0, 0, 0, 1);
    }

    private static void catUpToItsNight() {
        HedgehogBorder x = Check.with("..;..", "011");
        x.bowl(4, 2);
        chance("ahead of it", x, 4, 3, 0, 0, 1);
        chance("in its NIGHT", x, 4, 4, 0, 1, 4);
        chance("behind it", x, 4, 9, 0, 1, 4);
        x.set(1, 4);
        chance("in winter", x, 4, 4, 0, 0, 1);
        x.set(1, 5);
        chance("just ahead of FROST", x, 4, 9, 0, 1, 4);
        x.bowl(3, 30);
        x.bowl(9, 2);
        x.bowl(5, 2);
        chance("BOWLS that do nothing", x, 4, 9, 0, 1, 4);
    }

    private static void catOfAllRealms() {
        HedgehogBorder x = States.make("full");
        for (int house = 0; house < 8; house++) {
            long sum = 0;
            for (int realm = 0; realm < 3; realm++) {
                long below = x.cat(5, 9, house, realm, 1);
                sum += x.cat(5, 9, house, realm, 0) * ((1L << 32) / below);
            }
            due("HOUSE " + house + ": all REALMS are 1", sum, 1L << 32);
        }
    }

    /** By each row of BOWLS that may be there, laid on an object of its own. */
    private static BigInteger[] byEachWay(String land, int[][] bowls, int c, int night, int realm) {
        BigInteger above = BigInteger.ZERO;
        for (int some = 0; some < 1 << bowls.length; some++) {
            HedgehogBorder x = Check.with(land, "041");
            BigInteger weight = BigInteger.ONE;
            for (int i = 0; i < bowls.length; i++) {
                boolean there = (some >> i & 1) == 1;
                if (there) {
                    x.bowl(bowls[i][0], bowls[i][1]);
                }
                weight = weight.multiply(BigInteger.valueOf(there ? c : 16 - c));
            }
            above = x.lies(night, 0) == realm ? above.add(weight) : above;
        }
        BigInteger below = BigInteger.valueOf(16).pow(bowls.length);
        BigInteger by = above.gcd(below);
        return new BigInteger[] {above.divide(by), below.divide(by)};
    }

    private static void catAgreesWithEachWay() {
        int[][] bowls = {{0, 3}, {0, 4}, {1, 6}, {1, 1}, {2, 7}, {2, 20}};
        for (String land : new String[] {"...;...;...", ".l.;w..;.#.", "..#;...;..."}) {
            HedgehogBorder x = Check.with(land, "041");
            for (int[] bowl : bowls) {
                x.bowl(bowl[0], bowl[1]);
            }
            for (int c : new int[] {0, 1, 5, 8, 15, 16}) {
                for (int night = 0; night < 4; night++) {
                    BigInteger[] want = byEachWay(land, bowls, c, night, c % 3);
                    chance(land + ", " + c + ", NIGHT " + night, x, c, night, c % 3, want[0].longValueExact(),
                        want[1].longValueExact());
                }
            }
        }
    }

    // ---- Promise 30

    /** Where it is, and on how many CELLS it has been, by the document's words once more. */
    private static int[] roamed(String land, int start, int seed, int n) {
        String[] rows = land.split(";");
        int row = start;
        int column = 0;
        int lot = seed;
        Set<Integer> been = new HashSet<>(Set.of(row * rows[0].length()));
        for (int k = 0; k < n; k++) {
            int[] open = {column + 1, row + 1, row - 1, column - 1};
            StringBuilder ways = new StringBuilder();
            ways.append(open[0] < rows[0].length() && rows[row].charAt(open[0]) != '#' ? "e" : "");
            ways.append(open[1] < rows.length && rows[open[1]].charAt(column) != '#' ? "s" : "");
            ways.append(open[2] >= 0 && rows[open[2]].charAt(column) != '#' ? "n" : "");
            ways.append(open[3] >= 0 && rows[row].charAt(open[3]) != '#' ? "w" : "");
            if (ways.length() > 0) {
                lot = (int) (1103515245L * lot + 12345L);
                char way = ways.charAt((lot >> 16 & 0xFFFF) % ways.length());
                row += way == 's' ? 1 : way == 'n' ? -1 : 0;
                column += way == 'e' ? 1 : way == 'w' ? -1 : 0;
            }
            been.add(row * rows[0].length() + column);
        }
        return new int[] {row * rows[0].length() + column, been.size()};
    }

    private static void roam(String land, int start, int seed, int n) {
        HedgehogBorder x = Check.with(land, "");
        x.set(0, start);
        int[] want = roamed(land, start, seed, n);
        due("roam(" + seed + ", " + n + ", 0) on " + land, x.roam(seed, n, 0), want[0]);
        due("roam(" + seed + ", " + n + ", 1) on " + land, x.roam(seed, n, 1), want[1]);
    }

    private static void roam0To60Steps() {
        for (int n = 0; n <= 60; n++) {
            roam(States.WIDEST, 0, 7, n);
            roam("..;l.;w#", 1, -7, n);
        }
        HedgehogBorder x = Check.with(States.WIDEST, "");
        for (int bad : new int[] {LEAST, -1, 61, GREATEST}) {
            due("roam(0, " + bad + ", 0)", x.roam(0, bad, 0), BAD);
            due("roam(0, " + bad + ", 1)", x.roam(0, bad, 1), BAD);
        }
        for (int bad : new int[] {LEAST, -1, 2, GREATEST}) {
            due("roam(0, 0, " + bad + ")", x.roam(0, 0, bad), BAD);
        }
        x.set(1, 0);
        due("in winter it roams as ever", x.roam(7, 60, 0), roamed(States.WIDEST, 0, 7, 60)[0]);
    }

    private static void roamFromNoCell() {
        HedgehogBorder x = Check.with("..;#.", "");
        for (int start = 0; start <= 5; start++) {
            x.set(0, start);
            due("from ROW " + start, x.roam(1, 0, 0), start == 0 ? 0 : NONE);
            due("from ROW " + start, x.roam(1, 60, 0) >= 0 ? 1 : 0, start == 0 ? 1 : 0);
            due("from ROW " + start + ", on how many", x.roam(1, 0, 1), start == 0 ? 1 : 0);
            due("from ROW " + start + ", on how many", x.roam(1, 60, 1), start == 0 ? 3 : 0);
        }
    }

    private static void roamWithoutALot() {
        for (String land : new String[] {".", "w", ".#", ".;#", ".#;#."}) {
            for (int n : new int[] {0, 1, 60}) {
                roam(land, 0, 5, n);
                due("it stays on " + land, Check.with(land, "").roam(5, n, 0), 0);
                due("on one CELL of " + land, Check.with(land, "").roam(5, n, 1), 1);
            }
        }
        for (int n = 0; n <= 5; n++) {
            due("to and fro on two", Check.with("..", "").roam(9, n, 0), n % 2);
            due("on two CELLS", Check.with("..", "").roam(9, n, 1), n == 0 ? 1 : 2);
        }
    }

    private static void roamOnHowManyCells() {
        int most = 0;
        for (int seed = 0; seed < 300; seed++) {
            HedgehogBorder x = Check.with(States.WIDEST, "");
            int[] want = roamed(States.WIDEST, 0, seed, 60);
            due("SEED " + seed, x.roam(seed, 60, 1), want[1]);
            most = Math.max(most, want[1]);
        }
        due("some SEED leads to more than 24 CELLS", most > 24 ? 1 : 0, 1);
    }

    private static void roamByAnySeed() {
        for (int seed : SEEDS) {
            for (int n : new int[] {0, 1, 2, 59, 60}) {
                for (int start = 0; start < 4; start++) {
                    roam("..l.w;.#l..;l..#.;.w.l.", start, seed, n);
                }
                roam(States.WIDEST, 5, seed, n);
            }
        }
    }
}
