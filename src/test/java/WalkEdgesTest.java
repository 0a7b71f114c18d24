import java.util.ArrayList;
import java.util.List;

/** The sentences on nights that name a boundary, each by a test of its own: walks, the line, realms, taxes. */
public final class WalkEdgesTest {
    private static final Check CHECK = new Check("WalkEdgesTest");
    private static final int NONE = -1, BAD = -2;
    private static final int LEAST = Integer.MIN_VALUE, GREATEST = Integer.MAX_VALUE;
    private static final int[] ENDS = {LEAST, LEAST + 1, GREATEST - 1, GREATEST};

    private WalkEdgesTest() {
    }

    public static void main(String[] args) {
        inEachNightAheadOfFrost();
        onTheFirstCellOfRowStart();
        ifThereIsNoFirstCell();
        ifTheFirstCellIsAWall();
        stepsTwentyFourAtMost();
        toAndFroTwentyFourSteps();
        tillItIsInTheLastColumn();
        behindItsLastStepAsItWasThen();
        notBackIfThereIsAnother();
        ifThereIsNoCellBesideIt();
        theFirstOfEastSouthNorthWest();
        worthOfTwoCells();
        worthInTheNightAhead();
        bowlsAndWormsOnce();
        leavesAndDogsEachTime();
        theStartIsWhereItHasBeen();
        nightsAheadOfTheOneAheadDoNotCount();
        marksOfOtherNights();
        lineAtFirstOnHalfOfAllRows();
        lineWhereItWasLast();
        lineInTheLatestNight();
        columnsThatThereAre();
        cellsThatThereAre();
        lessMoreElseCommon();
        liesNowhere();
        changesNoneToNine();
        taxesUpToANight();
        taxesAtTheirMost();
        firstNightAndLeastHouse();
        firstOfNone();
        CHECK.end();
    }

    private static void due(String what, long got, long want) {
        CHECK.due(what, got, want);
    }

    private static void walk(String what, HedgehogBorder x, int night, int... cells) {
        due(what + ": goes", x.goes(night), cells.length - 1);
        for (int k = 0; k <= 24; k++) {
            due(what + ": at " + k, x.at(night, k), cells[Math.min(k, cells.length - 1)]);
        }
    }

    private static void doesNotWalk(String what, HedgehogBorder x, int night) {
        due(what + ": goes in NIGHT " + night, x.goes(night), 0);
        for (int steps : new int[] {0, 1, 23, 24}) {
            due(what + ": at(" + night + ", " + steps + ")", x.at(night, steps), NONE);
        }
    }

    // ---- where it begins

    private static void inEachNightAheadOfFrost() {
        HedgehogBorder x = Check.with("...;...", "");
        for (int frost = 0; frost <= 10; frost++) {
            x.set(1, frost);
            for (int night = 0; night < 10; night++) {
                String what = "FROST " + frost + ", NIGHT " + night;
                due(what + ": at(.., 0)", x.at(night, 0), night < frost ? 0 : NONE);
                due(what + ": goes", x.goes(night), night < frost ? 2 : 0);
            }
        }
    }

    private static void onTheFirstCellOfRowStart() {
        HedgehogBorder x = Check.with(States.WIDEST, "");
        for (int start = 0; start <= 5; start++) {
            x.set(0, start);
            int c = 6 * start;
            walk("START " + start, x, 0, c, c + 1, c + 2, c + 3, c + 4, c + 5);
            due("START " + start + ": line", x.line(0, 0), start);
        }
    }

    private static void ifThereIsNoFirstCell() {
        for (int rows = 0; rows <= 6; rows++) {
            HedgehogBorder x = Check.with("..;".repeat(rows).replaceAll(";$", ""), "");
            for (int start = 0; start <= 5; start++) {
                x.set(0, start);
                if (start < rows) {
                    walk(rows + " ROWS, START " + start, x, 9, 2 * start, 2 * start + 1);
                } else {
                    doesNotWalk(rows + " ROWS, START " + start, x, 0);
                    doesNotWalk(rows + " ROWS, START " + start, x, 9);
                }
            }
        }
    }

    private static void ifTheFirstCellIsAWall() {
        HedgehogBorder x = Check.with("#.;..;#.", "");
        doesNotWalk("a wall in ROW 0", x, 0);
        due("the line is half of three", x.line(9, 0), 1);
        x.set(0, 1);
        walk("no wall in ROW 1", x, 0, 2, 3);
        x.set(0, 2);
        doesNotWalk("a wall in ROW 2", x, 9);
        HedgehogBorder y = Check.with("#", "");
        doesNotWalk("a wall alone", y, 0);
        for (int sign : new int[] {'.', 'l', 'w'}) {
            y.wipe(0);
            y.type(0, sign);
            walk("no wall", y, 0, 0);
        }
    }

    // ---- how far it goes

    /**
     * COLUMN 0 has leaves ahead of START, where it goes north first and must come back; then its one way is round to
     * the last COLUMN: 20 STEPS from ROW 0, one more for each ROW that START is further south.
     */
    private static HedgehogBorder winding(int start) {
        StringBuilder land = new StringBuilder();
        for (int row = 0; row < 6; row++) {
            land.append(row == 0 ? "" : ";").append(row < start ? 'l' : '.');
            land.append(row == 5 ? '.' : '#').append('.').append(row == 0 ? '.' : '#').append('.');
            land.append(row == 5 ? '.' : '#');
        }
        HedgehogBorder x = Check.with(land.toString(), "351;341;051");
        x.set(0, start);
        return x;
    }

    private static int[] windingPath(int start) {
        List<Integer> cells = new ArrayList<>();
        for (int row = start; row > 0; row--) {
            cells.add(6 * row);
        }
        for (int row = 0; row <= 5; row++) {
            cells.add(6 * row);
        }
        cells.add(31);
        for (int row = 5; row >= 0; row--) {
            cells.add(6 * row + 2);
        }
        cells.add(3);
        for (int row = 0; row <= 5; row++) {
            cells.add(6 * row + 4);
        }
        cells.add(35);
        return cells.stream().limit(25).mapToInt(c -> c).toArray();
    }

    private static void stepsTwentyFourAtMost() {
        for (int start = 0; start <= 5; start++) {
            HedgehogBorder x = winding(start);
            walk("winding from " + start, x, 0, windingPath(start));
            due("winding from " + start + ": how many", x.goes(0), Math.min(24, 20 + start));
            due("the last COLUMN is reached", x.at(0, 24) == 35 ? 1 : 0, start < 5 ? 1 : 0);
            due("the line there", x.line(0, 5), start < 5 ? 5 : 3);
            due("the HOUSE there", x.lies(0, 0), start < 5 ? 2 : 1);
        }
    }

    private static void toAndFroTwentyFourSteps() {
        HedgehogBorder x = Check.with(".#.;.#.;.#.", "");
        int[] path = new int[25];
        for (int k = 0; k < 25; k++) {
            path[k] = new int[] {0, 3, 6, 3}[k % 4];
        }
        walk("up and down", x, 0, path);
        walk("up and down in NIGHT 9", x, 9, path);
        due("where it was last", x.line(0, 0), 0);
        HedgehogBorder y = Check.with("..#.", "");
        int[] two = new int[25];
        for (int k = 0; k < 25; k++) {
            two[k] = k % 2;
        }
        walk("east and back west", y, 0, two);
    }

    private static void tillItIsInTheLastColumn() {
        HedgehogBorder one = Check.with("l;l;l", "");
        one.bowl(0, 1);
        walk("one COLUMN is the last one", one, 0, 0);
        HedgehogBorder two = Check.with("..;.l;.w", "");
        two.bowl(0, 3);
        walk("it does not go on in the last COLUMN", two, 0, 0, 1);
        HedgehogBorder six = Check.with("......", "");
        walk("six COLUMNS", six, 0, 0, 1, 2, 3, 4, 5);
    }

    private static void behindItsLastStepAsItWasThen() {
        HedgehogBorder x = Check.with("...;...", "");
        due("at(0, 0)", x.at(0, 0), 0);
        due("ahead of the last STEP", x.at(0, 1), 1);
        due("behind the last STEP", x.at(0, 2), 2);
        due("one STEP more", x.at(0, 3), 2);
        due("at(0, 24)", x.at(0, 24), 2);
        due("at(0, 25)", x.at(0, 25), BAD);
        due("at(0, -1)", x.at(0, -1), BAD);
        due("at(10, 0)", x.at(10, 0), BAD);
        due("at(-1, 0)", x.at(-1, 0), BAD);
        for (int end : ENDS) {
            due("at(0, " + end + ")", x.at(0, end), BAD);
            due("at(" + end + ", 0)", x.at(end, 0), BAD);
            due("goes(" + end + ")", x.goes(end), BAD);
        }
        due("goes(10)", x.goes(10), BAD);
        due("goes(-1)", x.goes(-1), BAD);
    }

    // ---- which way it goes

    private static void notBackIfThereIsAnother() {
        HedgehogBorder x = Check.with("l...;#..#;####", "");
        x.dog(0, 2);
        x.dog(0, 5);
        // From 1 it may go to one dog or another, but not back to the leaves on 0.
        walk("not back to leaves", x, 0, 0, 1, 2, 3);
        HedgehogBorder y = Check.with(".#..;...#;.###", "");
        walk("round a wall", y, 0, 0, 4, 5, 6, 2, 3);
        HedgehogBorder z = Check.with("..#.;l...", "");
        walk("east ahead of north", z, 0, 0, 4, 5, 6, 7);
        HedgehogBorder w = Check.with(".w#.;...#;#..#", "");
        // On 1, where worms were, there are south and the way back.
        due("south from the worms", w.at(0, 2), 5);
        HedgehogBorder v = Check.with(".l#;..#;#..", "");
        walk("down to the last COLUMN", v, 0, 0, 1, 4, 7, 8);
        HedgehogBorder u = Check.with(".w#;.##;...", "");
        // At 1 there is no other way: back to 0, and from there not back again, but south.
        walk("back from an end", u, 0, 0, 1, 0, 3, 6, 7, 8);
    }

    private static void ifThereIsNoCellBesideIt() {
        for (String land : new String[] {".#", ".#;#.", ".#.;#..", ".#;##"}) {
            HedgehogBorder x = Check.with(land, "");
            walk("walled in: " + land, x, 0, 0);
            walk("walled in: " + land, x, 9, 0);
            due("walled in: line, " + land, x.line(0, 0), 0);
        }
        HedgehogBorder y = Check.with("#.;.#;#.", "");
        y.set(0, 1);
        walk("walled in, ROW 1", y, 0, 2);
    }

    private static void theFirstOfEastSouthNorthWest() {
        HedgehogBorder all = Check.with("...;...;...", "");
        all.set(0, 1);
        walk("east of east, south, north", all, 0, 3, 4, 5);
        HedgehogBorder south = Check.with("...;.#.;...", "");
        south.set(0, 1);
        walk("south of south, north", south, 0, 3, 6, 7, 8);
        HedgehogBorder north = Check.with("....;...#;.#.#", "");
        walk("east along the top", north, 0, 0, 1, 2, 3);
        north.set(0, 1);
        // On 6 the east is a wall: south comes ahead of north.
        walk("south ahead of north", north, 0, 4, 5, 6, 10, 6, 2, 3);
        HedgehogBorder west = Check.with("....;...#;..##", "");
        west.set(0, 2);
        // 8, 9, 5 (north, no way east), 6, 2, 3.
        walk("north from 9", west, 0, 8, 9, 5, 6, 2, 3);
        HedgehogBorder ahead = Check.with(".###;...#;#.##", "");
        ahead.bowl(0, 9);
        // From 9 back to 5 (its only way), where east comes ahead of west; from 6 back, then south ahead of west.
        due("to the bowl", ahead.at(0, 3), 9);
        due("back north", ahead.at(0, 4), 5);
        due("east ahead of west", ahead.at(0, 5), 6);
        due("back west", ahead.at(0, 6), 5);
        due("south ahead of west", ahead.at(0, 7), 9);
        HedgehogBorder last = Check.with(".#.#.;.....;##l##", "");
        // From 12 back to 7: east 8, ahead of north 2 and west 6.
        walk("east ahead of north and west", last, 0, 0, 5, 6, 7, 12, 7, 8, 9);
        HedgehogBorder more = Check.with(".#.#;...#;##l#", "");
        // 0, 4, 5, 6, for leaves to 10 and back to 6: no way east, north 2 ahead of west 5.
        due("to the leaves", more.at(0, 4), 10);
        due("back from them", more.at(0, 5), 6);
        due("north ahead of west", more.at(0, 6), 2);
    }

    // ---- WORTH

    private static final String KINDS = ".lw";

    private static int worth(char kind, int bowls, int dogs, boolean was) {
        return 4 * bowls + (kind == 'w' ? 3 : 0) + (kind == 'l' ? 2 : 0) + (was ? 1 : 0) - 5 * dogs;
    }

    /** A land on which the first STEP is east to 1 or south to 3; k counts kinds, bowls and dogs of a CELL. */
    private static HedgehogBorder fork(int night, int east, int south) {
        HedgehogBorder x = Check.with("." + KINDS.charAt(east % 3) + ".;" + KINDS.charAt(south % 3) + "..", "");
        for (int i = 0; i < east / 3 % 3; i++) {
            x.bowl(night, 1);
        }
        for (int i = 0; i < south / 3 % 3; i++) {
            x.bowl(night, 3);
        }
        for (int i = 0; i < east / 9; i++) {
            x.dog(night, 1);
        }
        for (int i = 0; i < south / 9; i++) {
            x.dog(night, 3);
        }
        return x;
    }

    private static void worthOfTwoCells() {
        for (int east = 0; east < 27; east++) {
            for (int south = 0; south < 27; south++) {
                HedgehogBorder x = fork(0, east, south);
                int e = worth(KINDS.charAt(east % 3), east / 3 % 3, east / 9, false);
                int s = worth(KINDS.charAt(south % 3), south / 3 % 3, south / 9, false);
                due("WORTH " + e + " east, " + s + " south", x.at(0, 1), s > e ? 3 : 1);
            }
        }
        HedgehogBorder x = Check.with("...;.w.", "");
        for (int i = 0; i < 8; i++) {
            x.bowl(0, 1);
            x.dog(0, 1);
        }
        due("eight BOWLS and eight DOGS: 8 less", x.at(0, 1), 3);
        x.back(1);
        due("seven DOGS: 3 less", x.at(0, 1), 3);
        x.back(1);
        due("six DOGS: 2 more", x.at(0, 1), 1);
    }

    /** Night 4 is ahead of night 5; a way once gone is kept by its 1, so one bowl in night 4 tells it. */
    private static void worthInTheNightAhead() {
        for (int east = 0; east < 27; east++) {
            for (int south = 0; south < 27; south++) {
                for (int by : new int[] {1, 3}) {
                    HedgehogBorder x = fork(5, east, south);
                    x.bowl(4, by);
                    x.dog(4, by == 1 ? 3 : 1);
                    boolean wasEast = false;
                    boolean wasSouth = false;
                    for (int k = 0; k <= 24; k++) {
                        wasEast |= x.at(4, k) == 1;
                        wasSouth |= x.at(4, k) == 3;
                    }
                    int e = worth(KINDS.charAt(east % 3), east / 3 % 3, east / 9, wasEast);
                    int s = worth(KINDS.charAt(south % 3), south / 3 % 3, south / 9, wasSouth);
                    due("WORTH " + e + " east, " + s + " south, in NIGHT 5", x.at(5, 1), s > e ? 3 : 1);
                }
            }
        }
    }

    private static void bowlsAndWormsOnce() {
        // Round the ring 6, 7, 12, 11; back on 6 nothing is left there, and east comes first.
        HedgehogBorder x = Check.with(".....;.ww..;.ww..", "");
        walk("worms once", x, 0, 0, 1, 6, 7, 12, 11, 6, 7, 8, 9);
        HedgehogBorder y = Check.with(".....;.....;.....", "");
        y.bowl(0, 6);
        y.bowl(0, 7);
        y.bowl(0, 12);
        y.bowl(0, 11);
        walk("bowls once", y, 0, 0, 1, 6, 7, 12, 11, 6, 7, 8, 9);
        y.bowl(0, 6);
        y.bowl(0, 6);
        y.bowl(0, 6);
        walk("four bowls on one CELL, once", y, 0, 0, 1, 6, 7, 12, 11, 6, 7, 8, 9);
    }

    private static void leavesAndDogsEachTime() {
        // Leaves draw it round for all of its 24 STEPS.
        HedgehogBorder x = Check.with("....;.ll.;.ll.", "");
        int[] path = new int[25];
        path[0] = 0;
        path[1] = 1;
        for (int k = 2; k < 25; k++) {
            path[k] = new int[] {5, 6, 10, 9}[(k - 2) % 4];
        }
        walk("leaves each time", x, 0, path);
        // The dog holds it off the east the second time too.
        HedgehogBorder y = Check.with("....;.ww.;.ww.", "");
        y.dog(0, 7);
        due("a dog beside the ring: south", y.at(0, 8), 10);
        due("without it: east", Check.with("....;.ww.;.ww.", "").at(0, 8), 7);
    }

    private static void theStartIsWhereItHasBeen() {
        HedgehogBorder x = Check.with("w..;...;...", "");
        x.bowl(0, 0);
        x.bowl(0, 0);
        x.bowl(0, 1);
        x.bowl(0, 4);
        x.bowl(0, 3);
        walk("no worms nor bowls on its first CELL", x, 0, 0, 1, 4, 3, 6, 7, 8);
        HedgehogBorder y = Check.with("l..;...;...", "");
        y.bowl(0, 1);
        y.bowl(0, 4);
        y.bowl(0, 3);
        due("but leaves", y.at(0, 4), 0);
    }

    private static void nightsAheadOfTheOneAheadDoNotCount() {
        HedgehogBorder x = Check.with("...;...", "");
        x.bowl(0, 3);
        x.dog(1, 3);
        walk("NIGHT 0 by the bowl", x, 0, 0, 3, 4, 5);
        walk("NIGHT 1 by the dog", x, 1, 0, 1, 4, 5);
        // In NIGHT 2 only where it was in NIGHT 1 counts: 1, 4, 5.
        walk("NIGHT 2 by NIGHT 1", x, 2, 0, 1, 4, 5);
        HedgehogBorder y = Check.with("..;..", "");
        walk("NIGHT 0 has none ahead", y, 0, 0, 1);
        due("where it was in NIGHT 9 is nothing to NIGHT 0", y.at(9, 1), 1);
    }

    private static void marksOfOtherNights() {
        HedgehogBorder x = Check.with("..;..", "");
        x.bowl(9, 2);
        x.bowl(0, 2);
        x.dog(1, 2);
        x.dog(8, 2);
        int[] want = {2, 1, 1, 1, 1, 1, 1, 1, 1, 2};
        for (int night = 0; night < 10; night++) {
            due("NIGHT " + night, x.at(night, 1), want[night]);
        }
        HedgehogBorder y = Check.with("..;..", "");
        y.bowl(0, 4);
        y.bowl(0, 35);
        y.dog(0, 5);
        walk("marks beyond the land", y, 0, 0, 1);
        HedgehogBorder z = Check.with("..;#.;..", "");
        z.bowl(0, 2);
        walk("a BOWL on a wall draws it to nowhere", z, 0, 0, 1);
    }

    // ---- THE LINE and REALMS

    private static void lineAtFirstOnHalfOfAllRows() {
        for (int rows = 1; rows <= 6; rows++) {
            HedgehogBorder x = Check.with("..;".repeat(rows).replaceAll(";$", ""), "");
            x.set(1, 0);
            for (int night : new int[] {0, 9}) {
                due("half of " + rows, x.line(night, 0), rows / 2);
                due("half of " + rows, x.line(night, 1), rows / 2);
            }
            for (int row = 0; row < rows; row++) {
                due("realm of ROW " + row + " of " + rows, x.realm(9, 2 * row),
                    row < rows / 2 ? 0 : row > rows / 2 ? 1 : 2);
            }
        }
    }

    private static void lineWhereItWasLast() {
        HedgehogBorder x = Check.with(".....;.ww..;.ww..", "");
        // 0, 1, 6, 7, 12, 11, 6, 7, 8, 9: in COLUMN 1 on ROWS 0, 1, 2, 1; in COLUMN 2 on ROWS 1, 2, 1.
        int[] want = {0, 1, 1, 1, 1};
        for (int column = 0; column < 5; column++) {
            due("line(0, " + column + ")", x.line(0, column), want[column]);
        }
        HedgehogBorder y = Check.with(".#.;.#.;.#.;.#.", "");
        // 24 STEPS of six to and fro end where they began.
        due("a COLUMN of to and fro", y.line(0, 0), 0);
        due("a COLUMN where it never was", y.line(9, 2), 2);
        HedgehogBorder z = Check.with(".#.;.#.;.#.;.#.;.#.", "");
        due("three times down and up", z.at(0, 24), 0);
        due("and its line", z.line(0, 0), 0);
        HedgehogBorder w = Check.with(".#.;.#.;.#.;.#.;.#.;.#.", "");
        // Ten to and fro: behind 24 STEPS it is on ROW 4, on its way down.
        due("on its way down", w.at(0, 24), 12);
        due("and its line", w.line(0, 0), 4);
    }

    private static void lineInTheLatestNight() {
        HedgehogBorder x = Check.with("..;..;..;..", "");
        x.set(1, 3);
        x.bowl(1, 2);
        x.bowl(1, 4);
        x.dog(2, 2);
        int[] ends = {0, 2, 0, 0, 0, 0, 0, 0, 0, 0};
        for (int night = 0; night < 10; night++) {
            due("line(" + night + ", 1)", x.line(night, 1), ends[night]);
        }
        x.set(1, 2);
        due("the latest NIGHT is 1", x.line(9, 1), 2);
        x.set(1, 1);
        due("the latest NIGHT is 0", x.line(9, 1), 0);
        x.set(1, 0);
        due("there was none", x.line(9, 1), 2);
    }

    private static void columnsThatThereAre() {
        for (int columns = 1; columns <= 6; columns++) {
            HedgehogBorder x = Check.with("......".substring(0, columns), "");
            due("the last COLUMN of " + columns, x.line(0, columns - 1), 0);
            due("none behind it", x.line(0, columns), BAD);
            due("none ahead", x.line(9, -1), BAD);
        }
        HedgehogBorder x = Check.with("..", "");
        for (int bad : new int[] {LEAST, -1, 10, GREATEST}) {
            due("line(" + bad + ", 0)", x.line(bad, 0), BAD);
        }
        for (int end : ENDS) {
            due("line(0, " + end + ")", x.line(0, end), BAD);
        }
        due("no COLUMNS", new HedgehogBorder().line(0, 0), BAD);
    }

    private static void cellsThatThereAre() {
        HedgehogBorder x = Check.with("..;..", "");
        due("the last CELL", x.realm(9, 3), 1);
        due("none behind it", x.realm(9, 4), BAD);
        due("nor 35", x.realm(9, 35), BAD);
        due("none ahead", x.realm(0, -1), BAD);
        HedgehogBorder y = Check.with(States.WIDEST, "");
        due("CELL 35", y.realm(0, 35), 1);
        due("CELL 36", y.realm(0, 36), BAD);
        for (int bad : new int[] {LEAST, -1, 10, GREATEST}) {
            due("realm(" + bad + ", 0)", y.realm(bad, 0), BAD);
        }
        for (int end : ENDS) {
            due("realm(0, " + end + ")", y.realm(0, end), BAD);
        }
        due("no CELLS", new HedgehogBorder().realm(0, 0), BAD);
        due("a wall is in a REALM too", Check.with("..;##", "").realm(0, 3), 1);
    }

    private static void lessMoreElseCommon() {
        HedgehogBorder x = Check.with(States.WIDEST, "");
        for (int start = 0; start <= 5; start++) {
            x.set(0, start);
            for (int c = 0; c < 36; c++) {
                int row = c / 6;
                due("START " + start + ": realm of CELL " + c, x.realm(0, c), row < start ? 0 : row > start ? 1 : 2);
            }
        }
    }

    private static void liesNowhere() {
        HedgehogBorder x = Check.with("..;..;..", "051;061");
        for (int night = 0; night < 10; night++) {
            due("on the last CELL", x.lies(night, 0), 1);
            due("one beyond it", x.lies(night, 1), NONE);
        }
        due("lies(0, 2)", x.lies(0, 2), BAD);
        due("lies(0, -1)", x.lies(0, -1), BAD);
        due("lies(10, 0)", x.lies(10, 0), BAD);
        due("lies(-1, 0)", x.lies(-1, 0), BAD);
        for (int end : ENDS) {
            due("lies(" + end + ", 0)", x.lies(end, 0), BAD);
            due("lies(0, " + end + ")", x.lies(0, end), BAD);
            due("changes(" + end + ")", x.changes(end), BAD);
        }
        due("changes(2)", x.changes(2), BAD);
        due("changes(-1)", x.changes(-1), BAD);
        due("nowhere never changes", x.changes(1), 0);
    }

    /** Bowls draw it south in odd nights, dogs drive it back in even ones, as many as are told. */
    private static HedgehogBorder swinging(int times) {
        HedgehogBorder x = Check.with("..;..", "013");
        for (int night = 1; night <= times; night++) {
            if (night % 2 == 1) {
                x.bowl(night, 2);
            } else {
                x.dog(night, 2);
            }
        }
        return x;
    }

    private static void changesNoneToNine() {
        for (int times = 0; times <= 9; times++) {
            due("changes by " + times, swinging(times).changes(0), times);
        }
        // NIGHT 0 has no NIGHT ahead: that it is another REALM than at first is no change.
        HedgehogBorder x = Check.with("..;..", "011;031");
        due("COMMON behind NIGHT 0", x.lies(0, 0), 2);
        due("no change", x.changes(0), 0);
        due("nor of the other", x.changes(1), 0);
        x.set(1, 1);
        due("nor in winter", x.changes(1), 0);
    }

    private static void taxesUpToANight() {
        HedgehogBorder x = swinging(9);
        // COMMON in even NIGHTS, in REALM 0 in odd ones, TAX 3.
        for (int night = 0; night < 10; night++) {
            due("taxes(" + night + ", 0)", x.taxes(night, 0), 3 * ((night + 1) / 2));
            due("taxes(" + night + ", 1)", x.taxes(night, 1), 0);
        }
        for (int bad : new int[] {LEAST, -1, 10, GREATEST}) {
            due("taxes(" + bad + ", 0)", x.taxes(bad, 0), BAD);
        }
        for (int bad : new int[] {LEAST, -1, 2, 3, GREATEST}) {
            due("taxes(0, " + bad + ")", x.taxes(0, bad), BAD);
        }
    }

    private static void taxesAtTheirMost() {
        HedgehogBorder x = Check.with(States.WIDEST, "359;359;359;359;359;359;359;359");
        due("eight HOUSES of TAX 9, ten NIGHTS", x.taxes(9, 1), 720);
        due("one NIGHT", x.taxes(0, 1), 72);
        due("the other REALM", x.taxes(9, 0), 0);
        x.set(0, 5);
        due("COMMON: to none", x.taxes(9, 0) + x.taxes(9, 1), 0);
        x.set(0, 0);
        x.wipe(1);
        Check.typed(x, 1, "350;399");
        due("TAX 0, and one that is NOWHERE", x.taxes(9, 1), 0);
        due("no HOUSES", Check.with("..", "").taxes(9, 0), 0);
    }

    private static void firstNightAndLeastHouse() {
        HedgehogBorder x = Check.with("..;..", "391;031;011;031");
        due("NIGHT 0", x.first(0), 0);
        due("HOUSE 2", x.first(1), 2);
        x.bowl(0, 2);
        due("NIGHT 0 by the bowl", x.first(0), 0);
        due("HOUSE 1, the least of two", x.first(1), 1);
        HedgehogBorder y = Check.with("..;..", "031");
        y.bowl(9, 2);
        due("NIGHT 9, the last", y.first(0), 9);
        due("HOUSE 0", y.first(1), 0);
        y.set(1, 9);
        due("one NIGHT too late", y.first(0), NONE);
        due("none", y.first(1), NONE);
        HedgehogBorder z = Check.with("..;..", "031;031;031;031;031;031;031;011");
        due("HOUSE 7, the last", z.first(1), 7);
        due("NIGHT 0", z.first(0), 0);
    }

    private static void firstOfNone() {
        for (int what = 0; what < 2; what++) {
            due("no land, no HOUSES", new HedgehogBorder().first(what), NONE);
            due("no HOUSES", Check.with("..", "").first(what), NONE);
            due("NOWHERE", Check.with("..", "021").first(what), NONE);
            due("never COMMON", Check.with("..;..", "031").first(what), NONE);
        }
        for (int bad : new int[] {LEAST, -1, 2, GREATEST}) {
            due("first(" + bad + ")", Check.with("..", "001").first(bad), BAD);
        }
    }
}
