import java.util.Random;

/** Sentences of the document that name no boundary, each by a test of its own where no other test is only theirs. */
public final class DocumentTest {
    private static final Check CHECK = new Check("DocumentTest");
    private static final int NONE = -1, BAD = -2, COMMON = 2;
    private static final int LANDS = 150;

    private DocumentTest() {
    }

    public static void main(String[] args) {
        aCellIsInAColumn();
        nightsAre0To9();
        toACellBesideItThatIsNoWall();
        bowlsAndWormsAnewInEachNight();
        eachColumnByItsOwnLatestNight();
        aHouseIsInTheRealmOfItsCell();
        nightsOfWinterCountToo();
        noneLessThanTheOneAhead();
        ofThoseStartsAlone();
        housesMayShareACell();
        CHECK.end();
    }

    private static void due(String what, long got, long want) {
        CHECK.due(what, got, want);
    }

    private static void aCellIsInAColumn() {
        HedgehogBorder x = Check.with("..####;#..###;##..##;###..#;####..;#####.", "");
        int[] rows = {0, 1, 2, 3, 4, 4};
        for (int cell = 0; cell < 36; cell++) {
            int row = cell / 6;
            int border = rows[cell % 6];
            due("down the stairs: line(0, " + cell % 6 + ")", x.line(0, cell % 6), border);
            int realm = row < border ? 0 : row > border ? 1 : COMMON;
            due("down the stairs: realm(0, " + cell + ")", x.realm(0, cell), realm);
        }
    }

    private static void nightsAre0To9() {
        HedgehogBorder x = Check.with("..;..", "011");
        x.sheet(0, 0, 1);
        for (int night = -1; night <= 10; night++) {
            boolean is = night >= 0 && night <= 9;
            String what = "NIGHT " + night + ": ";
            due(what + "at", x.at(night, 0), is ? 0 : BAD);
            due(what + "goes", x.goes(night), is ? 1 : BAD);
            due(what + "line", x.line(night, 1), is ? 0 : BAD);
            due(what + "realm", x.realm(night, 2), is ? 1 : BAD);
            due(what + "lies", x.lies(night, 0), is ? COMMON : BAD);
            due(what + "taxes", x.taxes(night, 1), is ? 0 : BAD);
            due(what + "layOut", x.layOut(night, 0, 0, 0), is ? 2 : BAD);
            due(what + "rake", x.rake(night, 0, 0), is ? 2 : BAD);
            due(what + "ask", x.ask(night), is ? 0 : BAD);
            due(what + "cat", x.cat(8, night, 0, COMMON, 0), is ? 1 : Check.LONG_BAD);
            due(what + "write", x.write(night, 0), is ? 1 : BAD);
            due(what + "bowl", x.bowl(night, 0), is ? 1 : BAD);
            due(what + "dog", x.dog(night, 0), is ? 1 : BAD);
            due(what + "seen", x.seen(night, 0, 0), is ? 1 : BAD);
            x.back(0);
            x.back(1);
            x.forget();
        }
    }

    private static HedgehogBorder some(int seed) {
        Random random = new Random(seed);
        Calls calls = new Calls(random, 100);
        HedgehogBorder x = Check.with(calls.land(), calls.houses());
        x.set(0, random.nextInt(3));
        x.set(1, 3 + random.nextInt(8));
        for (int i = 0; i < 6; i++) {
            x.bowl(random.nextInt(10), random.nextInt(20));
            x.dog(random.nextInt(10), random.nextInt(20));
        }
        return x;
    }

    private static void toACellBesideItThatIsNoWall() {
        for (int seed = 0; seed < LANDS; seed++) {
            HedgehogBorder x = some(seed);
            int columns = Math.max(1, x.count(6));
            for (int night = 0; night < 10; night += 3) {
                for (int steps = 1; steps <= x.goes(night); steps++) {
                    int from = x.at(night, steps - 1);
                    int to = x.at(night, steps);
                    int far = Math.abs(from / columns - to / columns) + Math.abs(from % columns - to % columns);
                    due("land " + seed + ": from " + from + " to " + to + ", how far", far, 1);
                    due("land " + seed + ": no wall on " + to, x.cell(to) == 1 ? 1 : 0, 0);
                }
            }
        }
    }

    /** Worms of 3 outdo leaves of 2 in every night, though it was there in the one ahead. */
    private static void bowlsAndWormsAnewInEachNight() {
        HedgehogBorder x = Check.with(".l;w.", "");
        for (int night = 0; night < 10; night++) {
            due("worms in NIGHT " + night, x.at(night, 1), 2);
        }
        HedgehogBorder y = Check.with(".l;..", "");
        y.bowl(0, 2);
        y.bowl(1, 2);
        int[] want = {2, 2, 1};
        for (int night = 0; night < 3; night++) {
            due("bowls in NIGHT " + night, y.at(night, 1), want[night]);
        }
    }

    /** In night 0 bowls lead it along ROW 0 to the end; from night 1 on leaves hold it in COLUMNS 1 and 2. */
    private static void eachColumnByItsOwnLatestNight() {
        HedgehogBorder x = Check.with("....;.ll.;.ll.", "");
        due("it is never in COLUMN 3: half of three", x.line(9, 3), 1);
        x.bowl(0, 2);
        x.bowl(0, 3);
        due("to the end in NIGHT 0", x.at(0, 24), 3);
        due("held in NIGHT 1", x.at(1, 24), 10);
        int[] rows = {0, 1, 2, 0};
        for (int column = 0; column < 4; column++) {
            due("line(0, " + column + ")", x.line(0, column), 0);
            due("line(1, " + column + ")", x.line(1, column), rows[column]);
        }
    }

    private static void aHouseIsInTheRealmOfItsCell() {
        for (int seed = 0; seed < LANDS; seed++) {
            HedgehogBorder x = some(seed);
            for (int house = 0; house < x.count(1); house++) {
                for (int night = 0; night < 10; night += 3) {
                    int cell = x.house(house, 0);
                    int want = cell < x.count(0) ? x.realm(night, cell) : NONE;
                    due("land " + seed + ": lies(" + night + ", " + house + ")", x.lies(night, house), want);
                }
            }
        }
    }

    private static void nightsOfWinterCountToo() {
        HedgehogBorder x = Check.with("..;..", "031;012");
        x.bowl(1, 2);
        x.set(1, 2);
        due("behind one NIGHT", x.taxes(0, 1), 1);
        due("REALM 1 gets no more", x.taxes(9, 1), 1);
        due("REALM 0 gets its TAX in nine NIGHTS", x.taxes(9, 0), 9 * 2);
        due("changes of the one", x.changes(0), 1);
        due("changes of the other", x.changes(1), 1);
        due("where to live in REALM 0", x.live(0, 0), 0);
        due("nine NIGHTS", x.live(0, 1), 9);
        x.seen(9, 0, COMMON);
        due("what was SEEN in winter", x.began(), 63);
        x.seen(9, 1, COMMON);
        due("cannot be", x.began(), 0);
    }

    /** It comes to 2 first and to 0 then, but the row is told from the least on. */
    private static void noneLessThanTheOneAhead() {
        HedgehogBorder x = Check.with("..;..;..", "031");
        x.set(0, 2);
        due("two", x.layOut(0, 0, 1, NONE), 2);
        due("the least", x.layOut(0, 0, 1, 0), 0);
        due("the other", x.layOut(0, 0, 1, 1), 2);
        x.bowl(0, 0);
        x.bowl(0, 2);
        due("it comes to 2 first", x.at(0, 1), 2);
        due("then to 0", x.at(0, 2), 0);
        due("and it is so", x.lies(0, 0), 1);
    }

    private static void ofThoseStartsAlone() {
        HedgehogBorder x = Check.with(States.WIDEST, "121;241");
        due("of all STARTS: three by HOUSE 0, four by HOUSE 1", x.ask(0), 0);
        x.seen(0, 0, 0);
        due("STARTS 3, 4, 5", x.began(), 8 + 16 + 32);
        due("of those: three by HOUSE 0, one by HOUSE 1", x.ask(0), 1);
        x.forget();
        due("of all again", x.ask(0), 0);
    }

    private static void housesMayShareACell() {
        HedgehogBorder x = Check.with("..;.#", "034;035;030");
        for (int house = 0; house < 3; house++) {
            due("on one wall: lies(0, " + house + ")", x.lies(0, house), 1);
        }
        due("each pays", x.taxes(0, 1), 9);
        due("the least is asked", x.ask(0), 0);
    }
}
