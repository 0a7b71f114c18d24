/** Promises 13 to 20: where it walks, the line, realms, changes, taxes, first. */
public final class NightsTest {
    private static final Check CHECK = new Check("NightsTest");

    private NightsTest() {
    }

    public static void main(String[] args) {
        atRefusals();
        eastComesFirst();
        southAheadOfNorth();
        northAheadOfWest();
        wayBack();
        walledIn();
        wallsAndMissingRows();
        worths();
        onceInANight();
        nightAhead();
        drawnNorth();
        goes();
        line();
        realm();
        lies();
        changes();
        taxes();
        first();
        CHECK.end();
    }

    private static void due(String what, long got, long want) {
        CHECK.due(what, got, want);
    }

    private static void walk(String what, HedgehogBorder x, int night, int... cells) {
        due(what + ": goes", x.goes(night), cells.length - 1);
        for (int k = 0; k < cells.length; k++) {
            due(what + ": at " + k, x.at(night, k), cells[k]);
        }
        due(what + ": at the end", x.at(night, 24), cells[cells.length - 1]);
    }

    private static void atRefusals() {
        HedgehogBorder x = Check.with("...", "");
        due("at(-1, 0)", x.at(-1, 0), -2);
        due("at(10, 0)", x.at(10, 0), -2);
        due("at(0, -1)", x.at(0, -1), -2);
        due("at(0, 25)", x.at(0, 25), -2);
        due("at(9, 24)", x.at(9, 24), 2);
        due("at without a land", new HedgehogBorder().at(0, 0), -1);
    }

    private static void eastComesFirst() {
        walk("all alike", Check.with("...;...;...", ""), 0, 0, 1, 2);
        walk("one column", Check.with(".;.", ""), 0, 0);
    }

    private static void southAheadOfNorth() {
        HedgehogBorder x = Check.with("...;.#.;...", "");
        x.set(0, 1);
        walk("south", x, 0, 3, 6, 7, 8);
    }

    private static void northAheadOfWest() {
        HedgehogBorder x = Check.with("...;..#;..#", "");
        x.set(0, 2);
        walk("north", x, 0, 6, 7, 4, 1, 2);
    }

    private static void wayBack() {
        HedgehogBorder x = Check.with(".#.;.#.", "");
        due("24 steps to and fro", x.goes(0), 24);
        for (int k = 0; k <= 24; k++) {
            due("to and fro " + k, x.at(0, k), k % 2 == 0 ? 0 : 3);
        }
        due("where it was last", x.line(0, 0), 0);
        due("where it never was", x.line(0, 1), 1);
        // Even at its worst, another cell is gone to ahead of the way back.
        HedgehogBorder y = Check.with("...;...", "");
        y.dog(0, 2);
        y.dog(0, 2);
        y.dog(0, 4);
        y.dog(0, 4);
        y.dog(0, 4);
        walk("not back", y, 0, 0, 1, 2);
    }

    private static void walledIn() {
        HedgehogBorder x = Check.with(".#.;#..", "");
        walk("walled in", x, 0, 0);
        due("its column", x.line(0, 0), 0);
        due("columns beyond", x.line(0, 1), 1);
    }

    private static void wallsAndMissingRows() {
        HedgehogBorder x = Check.with("#..;...", "");
        due("from a wall", x.at(0, 0), -1);
        due("from a wall, later", x.at(9, 24), -1);
        due("from a wall it goes", x.goes(0), 0);
        x.set(0, 2);
        due("no such row", x.at(0, 0), -1);
        x.set(0, 1);
        walk("the second row", x, 9, 3, 4, 5);
        x.set(1, 4);
        due("ahead of frost", x.goes(3), 2);
        due("frost", x.at(4, 0), -1);
        due("frost: goes", x.goes(4), 0);
        due("later", x.at(9, 24), -1);
        due("the line stays", x.line(9, 2), 1);
    }

    private static void worths() {
        walk("leaves draw", Check.with("...;l..", ""), 0, 0, 3, 4, 5);
        walk("worms more than leaves", Check.with(".l.;w..", ""), 0, 0, 3, 4, 1, 2);
        HedgehogBorder x = Check.with(".w.;...", "");
        x.bowl(0, 3);
        walk("a bowl more than worms", x, 0, 0, 3, 4, 1, 2);
        HedgehogBorder y = Check.with("...;...", "");
        y.dog(0, 1);
        walk("a dog drives away", y, 0, 0, 3, 4, 5);
        y.bowl(0, 1);
        walk("one bowl is less than a dog", y, 0, 0, 3, 4, 5);
        y.bowl(0, 1);
        walk("two bowls are more", y, 0, 0, 1, 2);
        y.dog(0, 1);
        walk("two dogs", y, 0, 0, 3, 4, 5);
        HedgehogBorder z = Check.with("...;...", "");
        z.bowl(1, 3);
        walk("another night's bowl", z, 0, 0, 1, 2);
        walk("in its night", z, 1, 0, 3, 4, 1, 2);
        z.bowl(0, 30);
        walk("a bowl beyond the land", z, 0, 0, 1, 2);
    }

    private static void onceInANight() {
        // Round the block of worms; the second time there it goes by the order of the ways alone.
        HedgehogBorder x = Check.with("....;.ww.;.ww.", "");
        walk("worms are eaten", x, 0, 0, 1, 5, 6, 10, 9, 5, 6, 7);
        // The start counts as a cell where it has been: its bowl is no reason to go back.
        HedgehogBorder y = Check.with("...;...;...", "");
        y.bowl(0, 0);
        y.bowl(0, 1);
        y.bowl(0, 4);
        y.bowl(0, 3);
        walk("the start's bowl", y, 0, 0, 1, 4, 3, 6, 7, 8);
    }

    private static void nightAhead() {
        HedgehogBorder x = Check.with("...;...", "");
        x.bowl(0, 3);
        walk("by the bowl", x, 0, 0, 3, 4, 5);
        walk("where it was", x, 1, 0, 3, 4, 5);
        walk("and again", x, 9, 0, 3, 4, 5);
        HedgehogBorder y = Check.with("...;l..", "");
        y.bowl(0, 1);
        walk("where it was is less than leaves, by the bowl", y, 0, 0, 1, 2);
        walk("where it was is less than leaves", y, 1, 0, 3, 4, 1, 2);
        HedgehogBorder z = Check.with("...;...", "");
        z.dog(1, 1);
        walk("a dog where it was", z, 1, 0, 3, 4, 5);
        z.bowl(1, 1);
        walk("a bowl too: as much as an open cell", z, 1, 0, 1, 2);
        z.set(1, 1);
        walk("night 0 has none ahead", z, 0, 0, 1, 2);
    }

    private static void drawnNorth() {
        HedgehogBorder x = Check.with("...;...", "");
        x.set(0, 1);
        walk("from row 1", x, 0, 3, 4, 5);
        x.bowl(0, 0);
        walk("to the first cell, by a bowl", x, 0, 3, 0, 1, 2);
        HedgehogBorder y = Check.with("l..;...", "");
        y.set(0, 1);
        walk("to the first cell, by leaves", y, 0, 3, 0, 1, 2);
        HedgehogBorder z = Check.with("w..;...", "");
        z.set(0, 1);
        walk("to the first cell, by worms", z, 0, 3, 0, 1, 2);
    }

    private static void goes() {
        HedgehogBorder x = Check.with("......", "");
        due("goes(-1)", x.goes(-1), -2);
        due("goes(10)", x.goes(10), -2);
        due("goes(9)", x.goes(9), 5);
    }

    private static void line() {
        HedgehogBorder x = Check.with("..;..;..;..;..", "");
        due("line(-1, 0)", x.line(-1, 0), -2);
        due("line(10, 0)", x.line(10, 0), -2);
        due("line(0, -1)", x.line(0, -1), -2);
        due("line(0, 2)", x.line(0, 2), -2);
        due("where it was", x.line(0, 1), 0);
        x.set(1, 0);
        due("half of five", x.line(0, 0), 2);
        due("half of five, later", x.line(9, 1), 2);
        x.set(0, 4);
        x.set(1, 1);
        due("behind its night", x.line(0, 1), 4);
        due("behind frost", x.line(9, 1), 4);
        due("without a land", new HedgehogBorder().line(0, 0), -2);
    }

    private static void realm() {
        HedgehogBorder x = Check.with("..;..;..", "");
        x.set(0, 1);
        due("realm(-1, 0)", x.realm(-1, 0), -2);
        due("realm(10, 0)", x.realm(10, 0), -2);
        due("realm(0, -1)", x.realm(0, -1), -2);
        due("realm(0, 6)", x.realm(0, 6), -2);
        due("above", x.realm(0, 1), 0);
        due("on it", x.realm(0, 2), 2);
        due("below", x.realm(9, 5), 1);
        HedgehogBorder y = Check.with(".;.;.", "");
        y.set(0, 1);
        due("one column: above", y.realm(0, 0), 0);
        due("one column: on it", y.realm(0, 1), 2);
        due("one column: below", y.realm(0, 2), 1);
    }

    private static void lies() {
        HedgehogBorder x = Check.with("..;..;..", "001;021;041;061");
        x.set(0, 1);
        due("lies(-1, 0)", x.lies(-1, 0), -2);
        due("lies(10, 0)", x.lies(10, 0), -2);
        due("lies(0, -1)", x.lies(0, -1), -2);
        due("lies(0, 4)", x.lies(0, 4), -2);
        due("lies(0, 0)", x.lies(0, 0), 0);
        due("lies(0, 1)", x.lies(0, 1), 2);
        due("lies(0, 2)", x.lies(0, 2), 1);
        due("nowhere", x.lies(0, 3), -1);
    }

    /** A land of three rows on which a bowl in a night takes it down to row 1 in the last column. */
    private static HedgehogBorder changing() {
        HedgehogBorder x = Check.with("..;..;..", "015;032;057;069");
        x.bowl(3, 2);
        x.dog(3, 1);
        x.dog(4, 2);
        x.dog(4, 2);
        return x;
    }

    private static void changes() {
        HedgehogBorder x = changing();
        walk("changing, ahead", x, 2, 0, 1);
        walk("changing, by the bowl", x, 3, 0, 2, 3);
        walk("changing, behind", x, 4, 0, 1);
        due("changes(-1)", x.changes(-1), -2);
        due("changes(4)", x.changes(4), -2);
        due("common, 0, common", x.changes(0), 2);
        due("1, common, 1", x.changes(1), 2);
        due("always 1", x.changes(2), 0);
        due("nowhere", x.changes(3), 0);
        x.back(1);
        x.back(1);
        due("it stays where it was", x.changes(0), 1);
        HedgehogBorder y = Check.with("..;..;..", "011");
        y.bowl(1, 2);
        due("behind night 1", y.changes(0), 1);
        HedgehogBorder z = Check.with("..;..;..", "031");
        due("behind night 0 nothing changes", z.changes(0), 0);
        due("though it was common at first", z.lies(0, 0), 1);
    }

    private static void taxes() {
        HedgehogBorder x = changing();
        due("taxes(-1, 0)", x.taxes(-1, 0), -2);
        due("taxes(10, 0)", x.taxes(10, 0), -2);
        due("taxes(0, -1)", x.taxes(0, -1), -2);
        due("taxes(0, 2)", x.taxes(0, 2), -2);
        due("taxes(2, 0)", x.taxes(2, 0), 0);
        due("taxes(3, 0)", x.taxes(3, 0), 5);
        due("taxes(9, 0)", x.taxes(9, 0), 5);
        due("taxes(0, 1)", x.taxes(0, 1), 9);
        due("taxes(2, 1)", x.taxes(2, 1), 27);
        due("taxes(3, 1)", x.taxes(3, 1), 34);
        due("taxes(9, 1)", x.taxes(9, 1), 88);
    }

    private static void first() {
        HedgehogBorder x = changing();
        due("first(-1)", x.first(-1), -2);
        due("first(2)", x.first(2), -2);
        due("first(0)", x.first(0), 0);
        due("first(1)", x.first(1), 0);
        x.wipe(1);
        due("no houses", x.first(0), -1);
        due("no houses", x.first(1), -1);
        Check.typed(x, 1, "399;057;032;031");
        due("in the night of the bowl", x.first(0), 3);
        due("the least of two", x.first(1), 2);
    }
}
