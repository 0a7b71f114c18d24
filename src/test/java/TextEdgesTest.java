/** The sentences on texts, the land, houses, bowls and dogs that name a boundary, each by a test of its own. */
public final class TextEdgesTest {
    private static final Check CHECK = new Check("TextEdgesTest");
    private static final int NONE = -1, BAD = -2, NOT = -3, FULL = -4, NULL = -11;
    private static final int LEAST = Integer.MIN_VALUE, GREATEST = Integer.MAX_VALUE;
    private static final int[] ENDS = {LEAST, LEAST + 1, GREATEST - 1, GREATEST};
    private static final String SIGNS = ".#lw";

    private TextEdgesTest() {
    }

    public static void main(String[] args) {
        aNewObjectIsEmpty();
        landOfUpTo41Bytes();
        housesOfUpTo31Bytes();
        aByteIs0To255();
        wipeAtItsBounds();
        undoToTheFirstByte();
        oneToSixRowsOfOneToSixCells();
        theFirstByteOfASeventhRow();
        aCellTooMany();
        aRowThatIsTooShort();
        aTextThatIsNotEnded();
        anEmptyTextIsWell();
        everyByteOfALand();
        theFirstFaultIsTold();
        oneToEightHouses();
        theNinthHouse();
        everyByteOfAHouse();
        housesNotEnded();
        withAFaultTheLandIsEmpty();
        withAFaultThereAreNoHouses();
        cellsAreNumberedAsTheyCome();
        aHouseIsNowhereBeyondTheLand();
        houseTellsWhatIsTold();
        startIs0To5();
        frostIs0To10();
        bowlsAndDogsEightAtMost();
        bowlsAndDogsOnCells0To35();
        backUndoesTheLast();
        readAsManyAsAreWhole();
        readAsLongAsEachMayBe();
        readEightAtMost();
        readOfEachForm();
        CHECK.end();
    }

    private static void due(String what, long got, long want) {
        CHECK.due(what, got, want);
    }

    private static void counts(String what, HedgehogBorder x, int... want) {
        for (int k = 0; k < want.length; k++) {
            due(what + ": count(" + k + ")", x.count(k), want[k]);
        }
    }

    // ---- Promise 1

    private static void aNewObjectIsEmpty() {
        HedgehogBorder x = new HedgehogBorder();
        counts("new", x, 0, 0, 0, 0, 0, 0, 0, 0, 0);
        due("new: fault(0)", x.fault(0), NONE);
        due("new: fault(1)", x.fault(1), NONE);
        for (int c = 0; c < 36; c++) {
            due("new: cell(" + c + ")", x.cell(c), NONE);
        }
        for (int h = 0; h < 8; h++) {
            due("new: house(" + h + ", 0)", x.house(h, 0), BAD);
        }
        for (int s = 0; s < 4; s++) {
            due("new: lose(" + s + ")", x.lose(s), NULL);
        }
        due("START 0 at first", x.set(0, 5), 0);
        due("FROST 10 at first", x.set(1, 0), 10);
    }

    // ---- Promises 2 to 4

    private static void upTo(int text, int most) {
        HedgehogBorder x = new HedgehogBorder();
        for (int n = 1; n <= most; n++) {
            due("text " + text + ", byte " + n, x.type(text, n % 2 == 0 ? 0 : 255), n);
        }
        for (int b : new int[] {0, 1, ';', '.', 254, 255}) {
            due("text " + text + " is full: " + b, x.type(text, b), FULL);
        }
        due("text " + text + ": bytes", x.count(2 + text), most);
        due("the other text", x.count(3 - text), 0);
        due("text " + text + ": one undone", x.undo(text), most - 1);
        due("text " + text + ": one more", x.type(text, 7), most);
        due("text " + text + ": full again", x.type(text, 7), FULL);
        due("text " + text + ": wiped", x.wipe(text), most);
        due("text " + text + ": the first", x.type(text, 7), 1);
    }

    private static void landOfUpTo41Bytes() {
        upTo(0, 41);
    }

    private static void housesOfUpTo31Bytes() {
        upTo(1, 31);
    }

    private static void aByteIs0To255() {
        HedgehogBorder x = new HedgehogBorder();
        for (int text = 0; text < 2; text++) {
            for (int b : new int[] {-1, 256, -128, 46 - 256, 46 + 256, 48 + 65536}) {
                due("type(" + text + ", " + b + ")", x.type(text, b), BAD);
            }
            for (int b : ENDS) {
                due("type(" + text + ", " + b + ")", x.type(text, b), BAD);
            }
            due("nothing came to text " + text, x.count(2 + text), 0);
            int n = 0;
            for (int b : new int[] {0, 1, 127, 128, 254, 255}) {
                n++;
                due("type(" + text + ", " + b + ")", x.type(text, b), n);
            }
        }
    }

    private static void wipeAtItsBounds() {
        HedgehogBorder x = new HedgehogBorder();
        due("wipe an empty land", x.wipe(0), 0);
        due("wipe empty houses", x.wipe(1), 0);
        Check.typed(x, 0, ".");
        Check.typed(x, 1, States.EIGHT);
        due("wipe one byte", x.wipe(0), 1);
        due("houses are left", x.count(1), 8);
        due("wipe 31 bytes", x.wipe(1), 31);
        counts("wiped", x, 0, 0, 0, 0);
        Check.typed(x, 0, "x");
        due("wipe a text with a FAULT", x.wipe(0), 1);
        due("it is well", x.fault(0), NONE);
    }

    private static void undoToTheFirstByte() {
        HedgehogBorder x = Check.with(States.WIDEST, States.EIGHT);
        for (int left = 40; left >= 0; left--) {
            due("undo(0)", x.undo(0), left);
            int rows = (left + 1) / 7;
            boolean well = left == 0 || left % 7 == 6 || left < 7;
            due("fault(0) of " + left, x.fault(0), well ? NONE : left);
            due("cells of " + left, x.count(0), !well ? 0 : left < 7 ? left : 6 * rows);
        }
        due("undo(0) of an empty text", x.undo(0), NOT);
        for (int left = 30; left >= 0; left--) {
            due("undo(1)", x.undo(1), left);
            boolean well = left == 0 || left % 4 == 3;
            due("fault(1) of " + left, x.fault(1), well ? NONE : left);
            due("houses of " + left, x.count(1), well ? (left + 1) / 4 : 0);
        }
        due("undo(1) of an empty text", x.undo(1), NOT);
        due("and again", x.undo(1), NOT);
        due("it can go on", x.type(1, '0'), 1);
    }

    // ---- Promise 5: the land's FAULT

    private static String land(int rows, int columns, char sign) {
        String row = String.valueOf(sign).repeat(columns);
        return (row + ";").repeat(rows - 1) + row;
    }

    private static void fault(String land, int want) {
        HedgehogBorder x = Check.with(land, "");
        due("fault(0) of " + land, x.fault(0), want);
        if (want != NONE) {
            due("cells of " + land, x.count(0), 0);
        }
    }

    private static void oneToSixRowsOfOneToSixCells() {
        for (int rows = 1; rows <= 6; rows++) {
            for (int columns = 1; columns <= 6; columns++) {
                HedgehogBorder x = Check.with(land(rows, columns, 'l'), "");
                String what = rows + " ROWS of " + columns;
                due(what + ": fault(0)", x.fault(0), NONE);
                counts(what, x, rows * columns, 0, rows * (columns + 1) - 1, 0, 0, 0, columns);
                due(what + ": the last CELL", x.cell(rows * columns - 1), 2);
                due(what + ": none behind it", x.cell(Math.min(35, rows * columns)), rows * columns == 36 ? 2 : NONE);
            }
        }
    }

    private static void theFirstByteOfASeventhRow() {
        for (int columns = 1; columns <= 5; columns++) {
            String six = land(6, columns, '.');
            fault(six + ";", six.length() + 1);
            for (String more : new String[] {".", "#", "l", "w", ";", "x", "..", ".;", ".....".substring(0, columns)}) {
                if (six.length() + 1 + more.length() <= 41) {
                    fault(six + ";" + more, six.length() + 1);
                }
            }
        }
        HedgehogBorder x = Check.with(land(6, 6, '.'), "");
        due("there is no room for a seventh of six", x.type(0, ';'), FULL);
        due("36 CELLS", x.count(0), 36);
    }

    private static void aCellTooMany() {
        for (char sign : SIGNS.toCharArray()) {
            fault(land(1, 6, '.') + sign, 6);
            for (int columns = 1; columns <= 5; columns++) {
                fault(land(2, columns, '.') + sign, 2 * columns + 1);
                fault(land(5, columns, '.') + sign + ";", 5 * columns + 4);
                fault(land(6, columns, '.') + sign, 6 * columns + 5);
            }
            fault(land(5, 6, '.') + sign + ";.....", 34);
        }
    }

    private static void aRowThatIsTooShort() {
        fault(";", 0);
        fault(";.", 0);
        fault(";;", 0);
        for (int columns = 1; columns <= 6; columns++) {
            String row = land(1, columns, '.');
            for (int has = 0; has < columns; has++) {
                String cut = row + ";" + row.substring(0, has);
                fault(cut, columns + 1 + has);
                fault(cut + ";", columns + 1 + has);
                fault(cut + ";" + row, columns + 1 + has);
            }
        }
    }

    private static void aTextThatIsNotEnded() {
        for (int rows = 1; rows <= 5; rows++) {
            for (int columns = 1; columns <= 6; columns++) {
                String well = land(rows, columns, 'w');
                fault(well + ";", well.length() + 1);
            }
        }
    }

    private static void anEmptyTextIsWell() {
        HedgehogBorder x = Check.with("x", "x");
        due("fault(0) of x", x.fault(0), 0);
        due("fault(1) of x", x.fault(1), 0);
        x.undo(0);
        x.wipe(1);
        due("fault(0) of an empty one", x.fault(0), NONE);
        due("fault(1) of an empty one", x.fault(1), NONE);
    }

    /** Each of the 256 bytes where a land begins, goes on, has a whole ROW and begins another. */
    private static void everyByteOfALand() {
        for (int b = 0; b < 256; b++) {
            boolean isCell = SIGNS.indexOf(b) >= 0;
            String sign = String.valueOf((char) b);
            fault(sign, isCell ? NONE : 0);
            fault("." + sign, isCell ? NONE : b == ';' ? 2 : 1);
            fault("..;" + sign, isCell ? 4 : 3);
            fault("..;." + sign, isCell ? NONE : 4);
            fault("..;.." + sign, b == ';' ? 6 : 5);
            due("the kind of byte " + b, Check.with(sign, "").cell(0), isCell ? SIGNS.indexOf(b) : NONE);
        }
    }

    private static void theFirstFaultIsTold() {
        fault("x..;y", 0);
        fault("..x;.", 2);
        fault("..;.;x", 4);
        fault("..;...;x", 5);
        fault("x".repeat(41), 0);
        fault(States.WIDEST.substring(0, 40) + "x", 40);
        fault(States.WIDEST.substring(0, 40) + ";", 40);
        HedgehogBorder x = Check.with("..x", "");
        due("a FAULT", x.fault(0), 2);
        x.type(0, '.');
        due("it stays with what is behind it", x.fault(0), 2);
        x.undo(0);
        x.undo(0);
        due("undone, the text stands", x.count(0), 2);
    }

    // ---- Promise 5: the houses' FAULT

    private static void houseFault(String houses, int want) {
        HedgehogBorder x = Check.with("", houses);
        due("fault(1) of " + houses, x.fault(1), want);
        due("houses of " + houses, x.count(1), want == NONE ? (houses.length() + 1) / 4 : 0);
    }

    private static void oneToEightHouses() {
        for (int n = 1; n <= 8; n++) {
            houseFault("359;".repeat(n).substring(0, 4 * n - 1), NONE);
            HedgehogBorder x = Check.with("", "359;".repeat(n).substring(0, 4 * n - 1));
            due("the last HOUSE of " + n, x.house(n - 1, 0), 35);
            due("no HOUSE behind " + n, x.house(n, 0), BAD);
        }
    }

    private static void theNinthHouse() {
        HedgehogBorder x = Check.with("", States.EIGHT);
        due("there is no room for a ninth", x.type(1, ';'), FULL);
        due("eight", x.count(1), 8);
        due("well", x.fault(1), NONE);
        due("house(7, 0)", x.house(7, 0), 5);
        due("house(8, 0)", x.house(8, 0), BAD);
    }

    /** Each of the 256 bytes in each place of the first and of the second house. */
    private static void everyByteOfAHouse() {
        for (int b = 0; b < 256; b++) {
            boolean figure = b >= '0' && b <= '9';
            String sign = String.valueOf((char) b);
            for (int ahead = 0; ahead <= 28; ahead += 4) {
                String well = "271;".repeat(ahead / 4);
                houseFault(well + sign, figure && b <= '3' ? ahead + 1 : ahead);
                houseFault(well + "0" + sign, figure ? ahead + 2 : ahead + 1);
                houseFault(well + "00" + sign, figure ? NONE : ahead + 2);
                if (ahead < 28) {
                    houseFault(well + "000" + sign, b == ';' ? ahead + 4 : ahead + 3);
                }
            }
        }
    }

    private static void housesNotEnded() {
        for (int n = 0; n < 8; n++) {
            String well = "000;".repeat(n);
            if (n > 0) {
                houseFault(well, 4 * n);
            }
            houseFault(well + "3", 4 * n + 1);
            houseFault(well + "39", 4 * n + 2);
            houseFault(well + "399", NONE);
        }
    }

    // ---- with a FAULT a text is as if it was empty

    private static void withAFaultTheLandIsEmpty() {
        HedgehogBorder x = Check.with("...;...", "001;031");
        x.bowl(0, 3);
        due("it walks", x.goes(0), 3);
        x.type(0, 'x');
        counts("a land with a FAULT", x, 0, 2, 8, 7, 1, 0, 0, 0);
        due("cell(0)", x.cell(0), NONE);
        due("at(0, 0)", x.at(0, 0), NONE);
        due("goes(0)", x.goes(0), 0);
        due("line(0, 0)", x.line(0, 0), BAD);
        due("realm(0, 0)", x.realm(0, 0), BAD);
        due("lies(0, 0)", x.lies(0, 0), NONE);
        due("changes(0)", x.changes(0), 0);
        due("taxes(9, 1)", x.taxes(9, 1), 0);
        due("first(0)", x.first(0), NONE);
        due("layOut(0, 0, 2, -1)", x.layOut(0, 0, 2, -1), NONE);
        due("rake(0, 0, 2)", x.rake(0, 0, 2), NONE);
        due("live(2, 0)", x.live(2, 0), NONE);
        due("cat above", x.cat(8, 0, 0, 2, 0), 0);
        due("cat below", x.cat(8, 0, 0, 2, 1), 1);
        due("roam where", x.roam(1, 9, 0), NONE);
        due("roam on how many", x.roam(1, 9, 1), 0);
        x.undo(0);
        counts("it stands again", x, 6, 2, 7, 7, 1, 0, 3, 0);
        due("it walks again", x.goes(0), 3);
    }

    private static void withAFaultThereAreNoHouses() {
        HedgehogBorder x = Check.with("...;...", "001;031");
        due("lies(0, 1)", x.lies(0, 1), 1);
        x.type(1, ';');
        counts("houses with a FAULT", x, 6, 0, 7, 8);
        due("house(0, 0)", x.house(0, 0), BAD);
        due("lies(0, 0)", x.lies(0, 0), BAD);
        due("changes(0)", x.changes(0), BAD);
        due("taxes(9, 1)", x.taxes(9, 1), 0);
        due("ask(0)", x.ask(0), NONE);
        due("cat", x.cat(8, 0, 0, 2, 0), Check.LONG_BAD);
        due("live(1, 0): no HOUSE stands on 3", x.live(1, 0), 3);
        due("it walks", x.goes(0), 2);
        x.undo(1);
        due("lies(0, 1) again", x.lies(0, 1), 1);
        due("live(1, 0): a HOUSE stands on 3", x.live(1, 0), 4);
    }

    // ---- Promises 6 and 7

    private static void cellsAreNumberedAsTheyCome() {
        String signs = ".#lw.#;l.w#lw;##..ll;wwww..;l#l#l#;.lw#.l";
        HedgehogBorder x = Check.with(signs, "");
        int c = 0;
        for (char sign : signs.replace(";", "").toCharArray()) {
            due("cell(" + c + ")", x.cell(c), SIGNS.indexOf(sign));
            c++;
        }
        due("cell(36)", x.cell(36), BAD);
        due("cell(-1)", x.cell(-1), BAD);
        for (int end : ENDS) {
            due("cell(" + end + ")", x.cell(end), BAD);
            due("house(" + end + ", 0)", Check.with("", "001").house(end, 0), BAD);
            due("house(0, " + end + ")", Check.with("", "001").house(0, end), BAD);
        }
    }

    private static void aHouseIsNowhereBeyondTheLand() {
        HedgehogBorder x = Check.with(States.WIDEST, "341;351;361;371;381;391");
        for (int h = 0; h < 6; h++) {
            due("36 CELLS: lies(0, " + h + ")", x.lies(0, h), h < 2 ? 1 : NONE);
        }
        HedgehogBorder y = Check.with("..;..", "021;031;041;051");
        for (int h = 0; h < 4; h++) {
            due("4 CELLS: lies(9, " + h + ")", y.lies(9, h), h < 2 ? 1 : NONE);
        }
        y.wipe(0);
        due("no CELLS: lies(0, 0)", y.lies(0, 0), NONE);
        Check.typed(y, 0, "..;..;..");
        due("6 CELLS: lies(0, 3)", y.lies(0, 3), 1);
    }

    private static void houseTellsWhatIsTold() {
        for (int cell = 0; cell <= 39; cell++) {
            for (int tax = 0; tax <= 9; tax++) {
                HedgehogBorder x = Check.with("", "" + cell / 10 + cell % 10 + tax);
                due("CELL " + cell, x.house(0, 0), cell);
                due("TAX " + tax, x.house(0, 1), tax);
            }
        }
    }

    // ---- Promise 8

    private static void startIs0To5() {
        HedgehogBorder x = new HedgehogBorder();
        for (int v = 0; v <= 5; v++) {
            due("START " + v, x.set(0, v), Math.max(0, v - 1));
            due("START beyond it", x.set(0, 6), BAD);
            due("START below 0", x.set(0, -1), BAD);
            due("START stays", x.set(0, v), v);
        }
        due("FROST is another thing", x.set(1, 10), 10);
        for (int end : ENDS) {
            due("START " + end, x.set(0, end), BAD);
            due("FROST " + end, x.set(1, end), BAD);
            due("set(" + end + ", 0)", x.set(end, 0), BAD);
        }
    }

    private static void frostIs0To10() {
        HedgehogBorder x = new HedgehogBorder();
        int was = 10;
        for (int v = 0; v <= 10; v++) {
            due("FROST " + v, x.set(1, v), was);
            was = v;
            due("FROST beyond it", x.set(1, 11), BAD);
            due("FROST below 0", x.set(1, -1), BAD);
            due("FROST stays", x.set(1, v), v);
        }
        due("START is another thing", x.set(0, 0), 0);
    }

    // ---- Promises 9 to 11

    private static void bowlsAndDogsEightAtMost() {
        HedgehogBorder x = new HedgehogBorder();
        for (int n = 1; n <= 8; n++) {
            due("BOWL " + n, x.bowl(n, n), n);
            due("no DOG by it", x.count(5), n - 1);
            due("DOG " + n, x.dog(n, n), n);
        }
        due("a ninth BOWL", x.bowl(9, 9), FULL);
        due("a ninth DOG", x.dog(9, 9), FULL);
        due("one back", x.back(0), 7);
        due("room for a DOG", x.dog(9, 9), FULL);
        due("room for a BOWL", x.bowl(9, 9), 8);
        due("full again", x.bowl(9, 9), FULL);
        due("eight DOGS", x.count(5), 8);
    }

    private static void bowlsAndDogsOnCells0To35() {
        HedgehogBorder x = new HedgehogBorder();
        int n = 0;
        for (int cell : new int[] {0, 1, 34, 35}) {
            n++;
            due("BOWL on " + cell + ", there is no land", x.bowl(0, cell), n);
            due("DOG on " + cell + ", there is no land", x.dog(9, cell), n);
        }
        Check.typed(x, 0, "#.;..");
        due("BOWL on a wall", x.bowl(0, 0), 5);
        due("DOG on a wall", x.dog(0, 0), 5);
        due("BOWL beyond the land", x.bowl(0, 4), 6);
        due("a second BOWL there", x.bowl(0, 4), 7);
        // A mark set ahead of the land works when the CELL comes.
        HedgehogBorder y = new HedgehogBorder();
        y.bowl(0, 2);
        Check.typed(y, 0, "..;..");
        due("drawn by a BOWL that was there first", y.at(0, 1), 2);
    }

    private static void backUndoesTheLast() {
        HedgehogBorder x = Check.with("..;..", "");
        for (int n = 0; n < 8; n++) {
            x.bowl(n, 2);
            x.dog(n, 1);
        }
        for (int left = 7; left >= 0; left--) {
            due("back(0)", x.back(0), left);
            due("DOGS stay", x.count(5), 8);
        }
        due("back(0) of none", x.back(0), NOT);
        due("still none", x.count(4), 0);
        for (int left = 7; left >= 0; left--) {
            due("driven south in NIGHT " + left, x.at(left, 1), 2);
            due("back(1)", x.back(1), left);
        }
        due("no longer driven", x.at(0, 1), 1);
        due("back(1) of none", x.back(1), NOT);
        for (int end : ENDS) {
            due("back(" + end + ")", x.back(end), BAD);
        }
    }

    // ---- Promise 12

    private static HedgehogBorder withSheet(int form, int... items) {
        HedgehogBorder x = Check.with("..;..", "");
        x.sheet(3, form, items.length);
        for (int i = 0; i < items.length; i++) {
            x.lay(3, form, i, items[i]);
        }
        return x;
    }

    private static void readAsManyAsAreWhole() {
        for (int n = 0; n <= 5; n++) {
            HedgehogBorder x = withSheet(2, new int[n]);
            due("of " + n + " items", x.read(3), n / 2);
            due("of " + n + " items: BOWLS", x.count(4), n / 2);
        }
    }

    private static void readOne(int night, int cell, int want) {
        HedgehogBorder x = withSheet(2, night, cell);
        due("read (" + night + ", " + cell + ")", x.read(3), want);
        due("BOWLS by (" + night + ", " + cell + ")", x.count(4), want);
        due("no FINDING by (" + night + ", " + cell + ")", x.count(8), 0);
        HedgehogBorder y = withSheet(2, 1, 2, night, cell, 3, 2);
        due("between two", y.read(3), want == 0 ? 1 : 3);
        due("drawn in NIGHT 1", y.at(1, 1), 2);
        due("BOWLS", y.count(4), want == 0 ? 1 : 3);
    }

    private static void readAsLongAsEachMayBe() {
        for (int may : new int[] {0, 1, 8, 9}) {
            readOne(may, 0, 1);
            readOne(may, 35, 1);
            readOne(may, 36, 0);
        }
        readOne(10, 0, 0);
        readOne(-1, 0, 0);
        readOne(0, -1, 0);
        readOne(0, 34, 1);
        for (int end : ENDS) {
            readOne(end, 0, 0);
            readOne(0, end, 0);
        }
    }

    private static void readEightAtMost() {
        for (int has = 0; has <= 8; has++) {
            HedgehogBorder x = withSheet(0, new int[20]);
            for (int i = 0; i < has; i++) {
                x.bowl(9, 0);
            }
            due(has + " are there: read ten", x.read(3), 8 - has);
            due(has + " are there: BOWLS", x.count(4), 8);
            due("none more", x.read(3), 0);
            due("no FINDING", x.count(8), 0);
            due("one back", x.back(0), 7);
            due("one more", x.read(3), 1);
        }
        HedgehogBorder y = withSheet(0, new int[60]);
        due("thirty: eight of them", y.read(3), 8);
        HedgehogBorder z = withSheet(1, new int[16]);
        due("eight of eight", z.read(3), 8);
    }

    private static void readOfEachForm() {
        for (int form = 0; form < 3; form++) {
            HedgehogBorder x = withSheet(form, 0, 2, 4, 2, 9, 35);
            due("read FORM " + form, x.read(3), 3);
            due("drawn in NIGHT 0", x.at(0, 1), 2);
            due("drawn in NIGHT 4", x.at(4, 1), 2);
            due("the SHEET stays", x.get(3, form, 5), 35);
            due("and is read again", x.read(3), 3);
            due("six BOWLS", x.count(4), 6);
        }
        HedgehogBorder y = withSheet(0, 256, 258);
        due("what a byte keeps", y.read(3), 1);
        due("drawn by (0, 2)", y.at(0, 1), 2);
        HedgehogBorder z = withSheet(0, 0, 200);
        due("a byte below 0 is no CELL", z.read(3), 0);
    }
}
