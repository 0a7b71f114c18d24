/** The document's first sentence, clause by clause, on lands so small that each answer was worked out by hand. */
public final class FrontierTest {
    private static final Check CHECK = new Check("FrontierTest");
    private static final int NONE = -1;
    private static final int COMMON = 2;
    /** Cells 0 1 2, 3 4 5 and 6 7 8; houses NORTH, MIDDLE and SOUTH stand in column 1. */
    private static final String MEADOW = "...;...;...";
    private static final String FARMS = "011;042;073";
    private static final int NORTH = 0, MIDDLE = 1, SOUTH = 2;
    private static final int TO_THE_NORTH = 0, TO_THE_SOUTH = 6;

    private FrontierTest() {
    }

    public static void main(String[] args) {
        theBorderRunsWhereItWalked();
        customsMenFollow();
        aBarnHasChangedKingsNineTimes();
        milkIsABribe();
        dogsAreAnActOfWar();
        leavesAreRakedIntoPolicy();
        bridesWakeAbroad();
        inWinterAllIsAsInOctober();
        bothRealmsHaveABowlOut();
        theLandCellByCell();
        whereHousesStandAndWhatTheyPay();
        bowlsAndDogsByNights();
        whoIsTaxedByWhom();
        theFewestBowls();
        whereToLive();
        whereItBegan();
        whichBowlNeverWas();
        theNextHouseToAsk();
        bowlsThatACatDrinks();
        walksByASeed();
        bowlsUndone();
        CHECK.end();
    }

    private static void due(String what, long got, long want) {
        CHECK.due(what, got, want);
    }

    /** It begins in the middle row. */
    private static HedgehogBorder meadow() {
        HedgehogBorder x = Check.with(MEADOW, FARMS);
        x.set(0, 1);
        return x;
    }

    private static void lies(String what, HedgehogBorder x, int night, int... realms) {
        for (int house = 0; house < realms.length; house++) {
            due(what + ": lies(" + night + ", " + house + ")", x.lies(night, house), realms[house]);
        }
    }

    private static void track(String what, HedgehogBorder x, int night, int... cells) {
        for (int steps = 0; steps < cells.length; steps++) {
            due(what + ": at(" + night + ", " + steps + ")", x.at(night, steps), cells[steps]);
        }
        due(what + ": goes(" + night + ")", x.goes(night), cells.length - 1);
    }

    private static void theBorderRunsWhereItWalked() {
        HedgehogBorder x = meadow();
        for (int row = 0; row < 3; row++) {
            x.set(0, row);
            track("through ROW " + row, x, 0, 3 * row, 3 * row + 1, 3 * row + 2);
            for (int column = 0; column < 3; column++) {
                due("ROW " + row + ": line(0, " + column + ")", x.line(0, column), row);
            }
        }
    }

    private static void customsMenFollow() {
        HedgehogBorder x = Check.with(".#.;.w.;...", "");
        track("around a wall, to the worms", x, 0, 0, 3, 4, 5);
        due("the lantern is put out", x.at(0, 24), 5);
        due("no king walks ahead of it", x.at(0, 25), HedgehogBorder.BAD);
    }

    /** Bowls draw it north and south by turns; for the last two nights there are no bowls left, but dogs. */
    private static void aBarnHasChangedKingsNineTimes() {
        HedgehogBorder x = Check.with("..;..;..", "037");
        x.set(0, 1);
        for (int night = 0; night < 8; night++) {
            x.bowl(night, night % 2 == 0 ? 0 : 4);
        }
        x.dog(8, 3);
        x.dog(8, 4);
        x.dog(9, 3);
        x.dog(9, 0);
        for (int night = 0; night < 10; night++) {
            due("the barn's king behind NIGHT " + night, x.lies(night, 0), 1 - night % 2);
        }
        due("changes(0)", x.changes(0), 9);
        due("five times seven to the north", x.taxes(9, 0), 35);
        due("five times seven to the south", x.taxes(9, 1), 35);
    }

    private static void milkIsABribe() {
        HedgehogBorder x = meadow();
        lies("no milk", x, 0, 0, COMMON, 1);
        x.bowl(0, TO_THE_SOUTH);
        track("to the milk", x, 0, 3, 6, 7, 8);
        lies("milk in the south", x, 0, 0, 0, COMMON);
    }

    private static void dogsAreAnActOfWar() {
        HedgehogBorder x = meadow();
        x.dog(0, 4);
        track("away from the dog", x, 0, 3, 6, 7, 8);
        x.dog(0, 6);
        track("away from both", x, 0, 3, 0, 1, 2);
        lies("two dogs", x, 0, COMMON, 1, 1);
    }

    private static void leavesAreRakedIntoPolicy() {
        HedgehogBorder x = meadow();
        due("rake(0, MIDDLE, 0)", x.rake(0, MIDDLE, 0), 6);
        due("rake(0, MIDDLE, 1)", x.rake(0, MIDDLE, 1), 0);
        due("nothing is raked yet", x.lies(0, MIDDLE), COMMON);
        HedgehogBorder raked = Check.with("...;...;l..", FARMS);
        raked.set(0, 1);
        due("the heap does it", raked.lies(0, MIDDLE), 0);
    }

    private static void bridesWakeAbroad() {
        HedgehogBorder x = meadow();
        x.bowl(0, TO_THE_NORTH);
        x.bowl(1, TO_THE_SOUTH);
        due("she fell asleep in the south", x.lies(0, MIDDLE), 1);
        due("and woke in the north", x.lies(1, MIDDLE), 0);
        due("and stayed, where it had been", x.lies(9, MIDDLE), 0);
        due("once", x.changes(MIDDLE), 1);
    }

    private static void inWinterAllIsAsInOctober() {
        HedgehogBorder x = meadow();
        x.bowl(0, TO_THE_NORTH);
        x.bowl(1, TO_THE_SOUTH);
        x.bowl(2, TO_THE_NORTH);
        x.set(1, 2);
        for (int night = 2; night < 10; night++) {
            due("it sleeps in NIGHT " + night, x.at(night, 0), NONE);
            due("and goes nowhere", x.goes(night), 0);
            for (int column = 0; column < 3; column++) {
                due("line(" + night + ", " + column + ")", x.line(night, column), 2);
            }
            lies("winter", x, night, 0, 0, COMMON);
        }
        due("taxes are paid in winter too", x.taxes(9, 0) - x.taxes(1, 0), 8 * (1 + 2));
    }

    private static void bothRealmsHaveABowlOut() {
        HedgehogBorder x = meadow();
        due("one bowl for the north", x.layOut(0, MIDDLE, 0, NONE), 1);
        due("its cell", x.layOut(0, MIDDLE, 0, 0), TO_THE_SOUTH);
        due("one bowl for the south", x.layOut(0, MIDDLE, 1, NONE), 1);
        due("its cell", x.layOut(0, MIDDLE, 1, 0), TO_THE_NORTH);
        x.bowl(0, TO_THE_SOUTH);
        x.bowl(0, TO_THE_NORTH);
        due("with both out south comes ahead of north", x.lies(0, MIDDLE), 0);
    }

    private static void theLandCellByCell() {
        HedgehogBorder x = Check.with(".#;lw", "");
        for (int cell = 0; cell < 4; cell++) {
            due("open, a wall, leaves, worms: cell(" + cell + ")", x.cell(cell), cell);
        }
        due("and no more", x.cell(4), NONE);
    }

    private static void whereHousesStandAndWhatTheyPay() {
        HedgehogBorder x = meadow();
        for (int house = 0; house < 3; house++) {
            due("where " + house + " stands", x.house(house, 0), 1 + 3 * house);
            due("what " + house + " pays", x.house(house, 1), 1 + house);
        }
    }

    private static void bowlsAndDogsByNights() {
        HedgehogBorder x = meadow();
        x.bowl(1, TO_THE_SOUTH);
        x.dog(2, 6);
        x.dog(2, 4);
        track("neither", x, 0, 3, 4, 5);
        track("the bowl's night, then where it was the night ahead", x, 1, 3, 6, 7, 4, 5);
        track("the dogs' night", x, 2, 3, 0, 1, 2);
    }

    private static void whoIsTaxedByWhom() {
        HedgehogBorder x = meadow();
        x.bowl(1, TO_THE_SOUTH);
        x.bowl(1, 8);
        due("NORTH pays to the north", x.taxes(0, 0), 1);
        due("SOUTH pays to the south", x.taxes(0, 1), 3);
        due("MIDDLE pays to the north too", x.taxes(1, 0), 1 + 1 + 2);
        due("SOUTH pays to none", x.taxes(1, 1), 3);
        due("first(0)", x.first(0), 0);
        due("first(1)", x.first(1), MIDDLE);
    }

    private static void theFewestBowls() {
        HedgehogBorder x = meadow();
        due("it is there already", x.layOut(0, NORTH, 0, NONE), 0);
        due("so no bowl is told", x.layOut(0, NORTH, 0, 0), NONE);
        due("no bowl takes SOUTH to the north", x.layOut(0, SOUTH, 0, NONE), NONE);
        due("to the common land one does", x.layOut(0, SOUTH, COMMON, 0), TO_THE_SOUTH);
    }

    private static void whereToLive() {
        HedgehogBorder x = meadow();
        due("in the north", x.live(0, 0), 0);
        due("in the south", x.live(1, 0), 6);
        due("on the border", x.live(COMMON, 0), 3);
        due("all ten nights", x.live(0, 1), 10);
    }

    private static void whereItBegan() {
        HedgehogBorder x = meadow();
        due("nothing was seen", x.began(), 63);
        x.seen(0, MIDDLE, 0);
        due("MIDDLE was in the north: ROW 2", x.began(), 4);
        x.forget();
        x.seen(0, MIDDLE, COMMON);
        due("MIDDLE was common: ROW 1, or it did not walk", x.began(), 2 + 8 + 16 + 32);
    }

    private static void whichBowlNeverWas() {
        HedgehogBorder x = meadow();
        x.bowl(0, TO_THE_SOUTH);
        x.bowl(0, TO_THE_NORTH);
        x.seen(0, MIDDLE, 1);
        due("not the one in the south", x.never(), 1);
        x.forget();
        x.seen(0, MIDDLE, 0);
        due("not the one in the north", x.never(), 2);
    }

    private static void theNextHouseToAsk() {
        HedgehogBorder x = meadow();
        due("MIDDLE tells the most", x.ask(0), MIDDLE);
        x.seen(0, MIDDLE, 0);
        due("one START is left: any will do", x.ask(0), NORTH);
    }

    /** South comes ahead of north: it goes north only if the bowl there is the only one. */
    private static void bowlsThatACatDrinks() {
        HedgehogBorder x = meadow();
        x.bowl(0, TO_THE_SOUTH);
        x.bowl(0, TO_THE_NORTH);
        long[][] chances = {{5, 16}, {55, 256}, {121, 256}};
        for (int realm = 0; realm < 3; realm++) {
            due("above, REALM " + realm, x.cat(5, 0, MIDDLE, realm, 0), chances[realm][0]);
            due("below, REALM " + realm, x.cat(5, 0, MIDDLE, realm, 1), chances[realm][1]);
        }
    }

    /** In a row of three only the middle cell leaves a choice: an even LOT goes east, an odd one west. */
    private static void walksByASeed() {
        HedgehogBorder x = Check.with("...", "");
        int here = 0;
        int seed = 7;
        for (int n = 1; n <= 60; n++) {
            seed = seed * 1103515245 + 12345;
            boolean even = (seed >>> 16) % 2 == 0;
            here = here != 1 ? 1 : even ? 2 : 0;
            due("roam(7, " + n + ", 0)", x.roam(7, n, 0), here);
        }
        due("on all three", x.roam(7, 60, 1), 3);
    }

    private static void bowlsUndone() {
        HedgehogBorder x = meadow();
        x.bowl(0, TO_THE_NORTH);
        x.bowl(0, TO_THE_NORTH);
        x.bowl(0, TO_THE_SOUTH);
        due("two bowls in the north", x.lies(0, MIDDLE), 1);
        due("back(0)", x.back(0), 2);
        due("the one in the south is undone", x.cat(8, 0, MIDDLE, 0, 0), 0);
        due("back(0) again", x.back(0), 1);
        due("one is left", x.lies(0, MIDDLE), 1);
        due("back(0) once more", x.back(0), 0);
        due("none is left", x.lies(0, MIDDLE), COMMON);
        due("no more to undo", x.back(0), HedgehogBorder.NOT);
    }
}
