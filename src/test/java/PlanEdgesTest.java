/** The sentences on plans that name a boundary, each by a test of its own: LAY, RAKE, LIVE. */
public final class PlanEdgesTest {
    private static final Check CHECK = new Check("PlanEdgesTest");
    private static final int NONE = -1, BAD = -2;
    private static final int LEAST = Integer.MIN_VALUE, GREATEST = Integer.MAX_VALUE;
    private static final String[] LANDS = {".", "..", ".;.", "..;..", "...;...", ".l.;#w.", "...;.#.;l..", ".w.;...",
        "l..;..#", "#..;...", ".#.;.#.", "....;.ll.", ".;.;.", "w.w;l.l"};

    private PlanEdgesTest() {
    }

    public static void main(String[] args) {
        howManyAndTheIth();
        theFewestZeroOneTwo();
        threeAreNone();
        oneMayHaveTwo();
        theLeastRow();
        theLastCell();
        allInThatNight();
        layInWinter();
        layOfNowhere();
        layBeyondEight();
        layAgreesWithBowlsLaid();
        theLeastOpenCell();
        openCellsAlone();
        leavesInAllNights();
        rakeOfNowhereAndWinter();
        rakeAgreesWithLeavesTyped();
        behindMostNights();
        ofLikeOnesTheLeast();
        noWallNoHouse();
        liveOfNone();
        liveBehindNoNight();
        liveAgreesWithRealms();
        CHECK.end();
    }

    private static void due(String what, long got, long want) {
        CHECK.due(what, got, want);
    }

    private static void plan(String what, HedgehogBorder x, int night, int house, int realm, int... row) {
        boolean none = row.length == 1 && row[0] == NONE;
        due(what + ": how many", x.layOut(night, house, realm, NONE), none ? NONE : row.length);
        due(what + ": the 0th", x.layOut(night, house, realm, 0), none || row.length < 1 ? NONE : row[0]);
        due(what + ": the 1st", x.layOut(night, house, realm, 1), none || row.length < 2 ? NONE : row[1]);
    }

    // ---- LAY

    private static void howManyAndTheIth() {
        HedgehogBorder x = Check.with("..;..", "011;011;391");
        for (int i : new int[] {LEAST, -2, 2, GREATEST}) {
            due("layOut(0, 0, 0, " + i + ")", x.layOut(0, 0, 0, i), BAD);
        }
        for (int bad : new int[] {LEAST, -1, 3, GREATEST}) {
            due("no HOUSE " + bad, x.layOut(0, bad, 0, NONE), BAD);
            due("no REALM " + bad, x.layOut(0, 0, bad, NONE), BAD);
            due("rake: no HOUSE " + bad, x.rake(0, bad, 0), BAD);
            due("rake: no REALM " + bad, x.rake(0, 0, bad), BAD);
        }
        for (int bad : new int[] {LEAST, -1, 10, GREATEST}) {
            due("no NIGHT " + bad, x.layOut(bad, 0, 0, NONE), BAD);
            due("rake: no NIGHT " + bad, x.rake(bad, 0, 0), BAD);
        }
        due("the last HOUSE", x.layOut(9, 2, 2, NONE), NONE);
        due("nothing has been laid", x.count(4), 0);
    }

    /** South is worth it by so many BOWLS on 2 as outdo DOGS there. */
    private static HedgehogBorder dogs(int night, int many) {
        HedgehogBorder x = Check.with("..;..", "011");
        for (int i = 0; i < many; i++) {
            x.dog(night, 2);
        }
        return x;
    }

    private static void theFewestZeroOneTwo() {
        plan("none", dogs(0, 0), 0, 0, 2);
        plan("one", dogs(0, 0), 0, 0, 0, 2);
        plan("two", dogs(0, 1), 0, 0, 0, 2, 2);
        HedgehogBorder x = dogs(0, 1);
        x.bowl(0, 2);
        plan("one with one that is there", x, 0, 0, 0, 2);
        x.bowl(0, 2);
        plan("none with two that are there", x, 0, 0, 0);
    }

    private static void threeAreNone() {
        plan("three", dogs(0, 2), 0, 0, 0, NONE);
        HedgehogBorder x = dogs(0, 2);
        x.bowl(0, 2);
        plan("two more", x, 0, 0, 0, 2, 2);
        plan("above ROW 0", x, 0, 0, 1, NONE);
        plan("eight dogs", dogs(9, 8), 9, 0, 0, NONE);
    }

    private static void oneMayHaveTwo() {
        HedgehogBorder x = Check.with("..;..;..", "031");
        // For REALM 0 it must end on 5: by 2 and 4, of which each has one.
        plan("each has one", x, 0, 0, 0, 2, 4);
        x.dog(0, 4);
        plan("now it would take three", x, 0, 0, 0, NONE);
        HedgehogBorder y = Check.with("..;..", "031");
        y.set(0, 1);
        y.dog(0, 0);
        plan("both on CELL 0", y, 0, 0, 1, 0, 0);
    }

    private static void theLeastRow() {
        HedgehogBorder x = Check.with("...;...;...", "021");
        // A BOWL on 3 or on 4 does it.
        plan("the least of two", x, 0, 0, 0, 3);
        x.dog(0, 3);
        plan("then the other", x, 0, 0, 0, 4);
        HedgehogBorder y = Check.with("...;...;...", "051");
        // To end on ROW 2: 3 and 6, 3 and 7, 4 and 7.
        plan("the least of three rows", y, 0, 0, 0, 3, 6);
        y.dog(0, 6);
        plan("the same first one", y, 0, 0, 0, 3, 7);
        y.dog(0, 3);
        plan("another first one", y, 0, 0, 0, 4, 7);
    }

    private static void theLastCell() {
        HedgehogBorder x = Check.with("...;...", "021");
        x.set(0, 1);
        x.dog(0, 5);
        plan("only the last CELL, twice", x, 0, 0, 0, 5, 5);
        HedgehogBorder y = Check.with(States.WIDEST, "291");
        y.set(0, 5);
        y.dog(0, 35);
        plan("CELL 35, twice", y, 0, 0, 0, 35, 35);
        y.back(1);
        y.bowl(0, 28);
        plan("CELL 35, once", y, 0, 0, 0, 35);
    }

    private static void allInThatNight() {
        HedgehogBorder x = Check.with("..;..", "011");
        for (int night = 0; night < 10; night++) {
            plan("in NIGHT " + night, x, night, 0, 0, 2);
        }
        // In NIGHT 1 where it was counts 1: with a DOG two BOWLS are still enough, and one still is not.
        plan("two in NIGHT 1", dogs(1, 1), 1, 0, 0, 2, 2);
        x.bowl(3, 2);
        plan("one of NIGHT 3 is there", x, 3, 0, 0);
        plan("and keeps it there", x, 4, 0, 0);
        plan("NIGHT 2 is ahead", x, 2, 0, 0, 2);
        plan("back to ROW 0 by one", x, 4, 0, 2, 1);
    }

    private static void layInWinter() {
        HedgehogBorder x = Check.with("..;..", "011;031");
        for (int frost = 0; frost <= 10; frost++) {
            x.set(1, frost);
            for (int night = 0; night < 10; night++) {
                String what = "FROST " + frost + ", NIGHT " + night;
                if (night < frost) {
                    plan(what, x, night, 0, 0, 2);
                } else if (frost == 0) {
                    plan(what + ", as it was at first", x, night, 0, 0);
                    plan(what + ", no BOWL helps", x, night, 1, 1, NONE);
                } else {
                    plan(what + ", no BOWL helps", x, night, 0, 0, NONE);
                    plan(what + ", as it was", x, night, 1, 1);
                }
            }
        }
    }

    private static void layOfNowhere() {
        HedgehogBorder x = Check.with("..;..", "041;391");
        for (int realm = 0; realm < 3; realm++) {
            plan("NOWHERE, REALM " + realm, x, 0, 0, realm, NONE);
            plan("NOWHERE, REALM " + realm, x, 9, 1, realm, NONE);
        }
        HedgehogBorder y = Check.with("", "001");
        plan("no land", y, 0, 0, 2, NONE);
        HedgehogBorder z = Check.with("#.;..", "011");
        plan("it does not walk", z, 0, 0, 2, NONE);
        plan("it does not walk, and is so", z, 0, 0, 0);
    }

    private static void layBeyondEight() {
        HedgehogBorder x = dogs(0, 1);
        for (int i = 0; i < 8; i++) {
            x.bowl(9, 0);
        }
        plan("a ninth and a tenth are told", x, 0, 0, 0, 2, 2);
        due("eight are there", x.count(4), 8);
    }

    private static boolean is(HedgehogBorder x, int night, int realm, int... bowls) {
        for (int cell : bowls) {
            x.bowl(night, cell);
        }
        boolean so = x.lies(night, 0) == realm;
        for (int k = 0; k < bowls.length; k++) {
            x.back(0);
        }
        return so;
    }

    private static int[] tried(HedgehogBorder x, int night, int realm) {
        int cells = x.count(0);
        if (is(x, night, realm)) {
            return new int[0];
        }
        for (int a = 0; a < cells; a++) {
            if (is(x, night, realm, a)) {
                return new int[] {a};
            }
        }
        for (int a = 0; a < cells; a++) {
            for (int b = a; b < cells; b++) {
                if (is(x, night, realm, a, b)) {
                    return new int[] {a, b};
                }
            }
        }
        return new int[] {NONE};
    }

    /** Small lands with each house and realm: what is told is what bowls do when they are laid. */
    private static void layAgreesWithBowlsLaid() {
        for (String land : LANDS) {
            int cells = land.replace(";", "").length();
            for (int house = 0; house <= cells; house++) {
                for (int k = 0; k < 12; k++) {
                    HedgehogBorder x = Check.with(land, "0" + house + "1");
                    x.set(0, k / 3 % 2);
                    x.dog(k / 6, cells / 2);
                    x.bowl(0, k % 2);
                    plan(land + ", HOUSE on " + house + ", " + k, x, k / 6, 0, k % 3, tried(x, k / 6, k % 3));
                }
            }
        }
    }

    // ---- RAKE

    private static void theLeastOpenCell() {
        HedgehogBorder x = Check.with("..;..", "011");
        due("it is so by any: the first", x.rake(0, 0, 2), 0);
        due("by 2", x.rake(0, 0, 0), 2);
        due("by none", x.rake(0, 0, 1), NONE);
        HedgehogBorder y = Check.with("...;...;...", "021");
        due("by 3 or 4: the least", y.rake(0, 0, 0), 3);
        due("the land stays", y.cell(3), 0);
        due("the walk stays", y.at(0, 1), 1);
        HedgehogBorder z = Check.with("...;...", "021");
        z.set(0, 1);
        // Leaves on 0 or 1 draw it to ROW 0, those on 2 are never beside it.
        due("not 0, not 1", z.rake(0, 0, 0), 2);
        HedgehogBorder w = Check.with("l.;l.", "011;031");
        w.set(0, 1);
        due("it goes north for leaves", w.lies(0, 1), 1);
        due("the last CELL, as much as the leaves", w.rake(0, 1, 2), 3);
    }

    private static void openCellsAlone() {
        for (char sign : "#lw".toCharArray()) {
            HedgehogBorder x = Check.with("." + sign + ";" + sign + sign, "001");
            due("only CELL 0 is open: " + sign, x.rake(0, 0, 2), 0);
            HedgehogBorder y = Check.with(("" + sign + sign + ";" + sign + sign).replace('#', 'l'), "001");
            due("none is open, though it is so: " + sign, y.rake(0, 0, 2), NONE);
            // By a wall on 1 it goes south, and HOUSE 0 is in REALM 0.
            HedgehogBorder z = Check.with("l" + sign + ";l.", "001");
            due("the last one is open: " + sign, z.rake(9, 0, sign == '#' ? 0 : 2), 3);
            due("it is not so by it: " + sign, z.rake(9, 0, 1), NONE);
        }
        HedgehogBorder x = Check.with("##;##", "001");
        due("walls are not raked", x.rake(0, 0, 0), NONE);
    }

    private static void leavesInAllNights() {
        HedgehogBorder x = Check.with("..;..", "011");
        for (int night = 0; night < 10; night++) {
            due("rake(" + night + ", 0, 0)", x.rake(night, 0, 0), 2);
        }
        x.dog(9, 2);
        due("NIGHT 8", x.rake(8, 0, 0), 2);
        due("a DOG in NIGHT 9", x.rake(9, 0, 0), NONE);
    }

    private static void rakeOfNowhereAndWinter() {
        HedgehogBorder x = Check.with("..;..", "041;011");
        for (int realm = 0; realm < 3; realm++) {
            due("NOWHERE", x.rake(0, 0, realm), NONE);
        }
        x.set(1, 1);
        due("in winter, by NIGHT 0", x.rake(9, 1, 0), 2);
        x.set(1, 0);
        due("no NIGHT ahead of FROST: so it is, by any", x.rake(9, 1, 0), 0);
        due("no NIGHT ahead of FROST", x.rake(9, 1, 2), NONE);
        due("no land", Check.with("", "001").rake(0, 0, 2), NONE);
    }

    private static void rakeAgreesWithLeavesTyped() {
        for (String land : LANDS) {
            int cells = land.replace(";", "").length();
            for (int house = 0; house <= cells; house++) {
                for (int k = 0; k < 12; k++) {
                    String what = "rake " + land + ", HOUSE on " + house + ", " + k;
                    due(what, raked(land, house, k).rake(k / 6 * 9, 0, k % 3), leavesFor(land, house, k));
                }
            }
        }
    }

    private static HedgehogBorder raked(String land, int house, int k) {
        HedgehogBorder x = Check.with(land, "0" + house + "1");
        x.set(0, k / 3 % 2);
        x.dog(k % 3, 1);
        return x;
    }

    private static int leavesFor(String land, int house, int k) {
        int cell = 0;
        for (int i = 0; i < land.length(); i++) {
            if (land.charAt(i) == '.') {
                HedgehogBorder x = raked(land.substring(0, i) + "l" + land.substring(i + 1), house, k);
                if (x.lies(k / 6 * 9, 0) == k % 3) {
                    return cell;
                }
            }
            cell += land.charAt(i) == ';' ? 0 : 1;
        }
        return NONE;
    }

    // ---- LIVE

    private static void live(String what, HedgehogBorder x, int realm, int which, int nights) {
        due(what + ": which", x.live(realm, 0), which);
        due(what + ": how many", x.live(realm, 1), nights);
    }

    private static void behindMostNights() {
        HedgehogBorder x = Check.with("..;..;..", "");
        for (int night = 0; night < 10; night++) {
            x.bowl(night, 2);
            live("drawn in NIGHT " + night, x, 0, 0, 10 - night);
            x.back(0);
        }
        live("never drawn, ROWS 1 and 2", x, 1, 2, 10);
        live("ROW 0", x, 2, 0, 10);
        x.bowl(9, 2);
        live("ROW 0 but in NIGHT 9", x, 2, 0, 9);
        live("ROW 2", x, 1, 4, 10);
        live("one NIGHT of ten", x, 0, 0, 1);
    }

    private static void ofLikeOnesTheLeast() {
        HedgehogBorder x = Check.with(States.WIDEST, "");
        x.set(0, 3);
        live("ROWS 0 to 2", x, 0, 0, 10);
        live("ROWS 4 and 5", x, 1, 24, 10);
        live("ROW 3", x, 2, 18, 10);
        Check.typed(x, 1, "001;011;241;181;191;201;211;221");
        live("behind two HOUSES", x, 0, 2, 10);
        live("behind one", x, 1, 25, 10);
        live("the last of its ROW", x, 2, 23, 10);
    }

    private static void noWallNoHouse() {
        HedgehogBorder x = Check.with("..;##;#l", "001");
        live("no HOUSE", x, 2, 1, 10);
        live("no wall, the last CELL", x, 1, 5, 10);
        HedgehogBorder y = Check.with("..;..", "041;001;001");
        live("a HOUSE that is NOWHERE takes no CELL", y, 1, 2, 10);
        live("two HOUSES on one CELL", y, 2, 1, 10);
        HedgehogBorder z = Check.with("w", "");
        live("worms are no wall", z, 2, 0, 10);
    }

    private static void liveOfNone() {
        for (int realm = 0; realm < 3; realm++) {
            live("no land", new HedgehogBorder(), realm, NONE, NONE);
            live("walls alone", Check.with("##;##", ""), realm, NONE, NONE);
            live("a HOUSE on the one CELL", Check.with(".", "009"), realm, NONE, NONE);
            live("HOUSES and walls", Check.with(".#;l#;w.", "001;021;041;051"), realm, NONE, NONE);
            live("a land with a FAULT", Check.with("..;", ""), realm, NONE, NONE);
        }
        HedgehogBorder x = Check.with("..", "");
        for (int bad : new int[] {LEAST, -1, 3, GREATEST}) {
            due("live(" + bad + ", 0)", x.live(bad, 0), BAD);
        }
        for (int bad : new int[] {LEAST, -1, 2, GREATEST}) {
            due("live(0, " + bad + ")", x.live(0, bad), BAD);
        }
    }

    private static void liveBehindNoNight() {
        HedgehogBorder x = Check.with("..;..", "");
        live("no CELL is ever in REALM 0: the least", x, 0, 0, 0);
        HedgehogBorder y = Check.with("#.", "");
        live("the least that is no wall", y, 1, 1, 0);
    }

    private static void liveAgreesWithRealms() {
        for (String land : LANDS) {
            HedgehogBorder x = Check.with(land, "011");
            x.bowl(4, 2);
            x.dog(7, 3);
            for (int realm = 0; realm < 3; realm++) {
                int best = NONE;
                int most = NONE;
                for (int c = 0; c < x.count(0); c++) {
                    int nights = 0;
                    for (int night = 0; night < 10; night++) {
                        nights += x.realm(night, c) == realm ? 1 : 0;
                    }
                    if (nights > most && c != 1 && x.cell(c) != 1) {
                        best = c;
                        most = nights;
                    }
                }
                live("realms of " + land, x, realm, best, most);
            }
        }
    }
}
