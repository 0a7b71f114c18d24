/** Promises 1 to 12: a new object, texts, the land, houses, bowls, dogs. */
public final class TextsTest {
    private static final Check CHECK = new Check("TextsTest");

    private TextsTest() {
    }

    public static void main(String[] args) {
        aNewObject();
        type();
        wipe();
        undo();
        faultOfTheLand();
        faultOfHouses();
        cell();
        house();
        set();
        bowlAndDog();
        back();
        read();
        CHECK.end();
    }

    private static void due(String what, long got, long want) {
        CHECK.due(what, got, want);
    }

    private static void aNewObject() {
        HedgehogBorder x = new HedgehogBorder();
        for (int what = 0; what <= 8; what++) {
            due("new: count(" + what + ")", x.count(what), 0);
        }
        for (int s = 0; s < 4; s++) {
            due("new: lose(" + s + ")", x.lose(s), -11);
        }
        due("new: cell(0)", x.cell(0), -1);
        due("new: START", x.set(0, 0), 0);
        due("new: FROST", x.set(1, 10), 10);
        due("NONE", HedgehogBorder.NONE, -1);
        due("BAD", HedgehogBorder.BAD, -2);
        due("NOT", HedgehogBorder.NOT, -3);
        due("FULL", HedgehogBorder.FULL, -4);
    }

    private static void type() {
        HedgehogBorder x = new HedgehogBorder();
        due("type(-1, 0)", x.type(-1, 0), -2);
        due("type(2, 0)", x.type(2, 0), -2);
        due("type(0, -1)", x.type(0, -1), -2);
        due("type(0, 256)", x.type(0, 256), -2);
        due("type(1, 256)", x.type(1, 256), -2);
        due("nothing was typed", x.count(2) + x.count(3), 0);
        for (int i = 1; i <= 41; i++) {
            due("type(0, 255), " + i, x.type(0, 255), i);
        }
        due("a 42nd byte", x.type(0, 255), -4);
        due("a 42nd byte that is none", x.type(0, 256), -2);
        for (int i = 1; i <= 31; i++) {
            due("type(1, 0), " + i, x.type(1, 0), i);
        }
        due("a 32nd byte", x.type(1, 0), -4);
        due("bytes of text 0", x.count(2), 41);
        due("bytes of text 1", x.count(3), 31);
    }

    private static void wipe() {
        HedgehogBorder x = Check.with("..;..", "001");
        due("wipe(-1)", x.wipe(-1), -2);
        due("wipe(2)", x.wipe(2), -2);
        due("cells stay", x.count(0), 4);
        due("wipe(0)", x.wipe(0), 5);
        due("wipe(0) again", x.wipe(0), 0);
        due("no cells", x.count(0), 0);
        due("no columns", x.count(6), 0);
        due("houses stay", x.count(1), 1);
        due("wipe(1)", x.wipe(1), 3);
        due("no houses", x.count(1), 0);
        due("nothing to walk on", x.at(0, 0), -1);
        due("typed anew", x.type(0, '.'), 1);
        due("it walks there", x.at(0, 0), 0);
        due("undone", x.undo(0), 0);
        due("nothing to walk on", x.at(0, 0), -1);
        due("typed anew", x.type(0, '#'), 1);
        due("a wall", x.cell(0), 1);
    }

    private static void undo() {
        HedgehogBorder x = Check.with("..;..", "0");
        due("undo(-1)", x.undo(-1), -2);
        due("undo(2)", x.undo(2), -2);
        due("undo(0)", x.undo(0), 4);
        due("a row too short", x.fault(0), 4);
        due("as if empty", x.count(0), 0);
        due("undo(0)", x.undo(0), 3);
        due("undo(0)", x.undo(0), 2);
        due("one row", x.count(0), 2);
        due("undo(1)", x.undo(1), 0);
        due("undo(1) of an empty one", x.undo(1), -3);
    }

    private static void landFault(String land, int want) {
        HedgehogBorder x = Check.with(land, "");
        due("fault(0) of " + land, x.fault(0), want);
        due("bytes of " + land, x.count(2), land.length());
        if (want != HedgehogBorder.NONE) {
            due("cells of " + land, x.count(0), 0);
            due("columns of " + land, x.count(6), 0);
            due("cell(0) of " + land, x.cell(0), -1);
            due("it does not walk on " + land, x.at(0, 0), -1);
            due("nor roam on " + land, x.roam(0, 0, 0), -1);
        }
    }

    private static void faultOfTheLand() {
        due("fault(-1)", new HedgehogBorder().fault(-1), -2);
        due("fault(2)", new HedgehogBorder().fault(2), -2);
        landFault("", -1);
        landFault(".", -1);
        landFault(".#lw", -1);
        landFault("......", -1);
        landFault(".......", 6);
        landFault(";", 0);
        landFault(".;", 2);
        landFault(".;;", 2);
        landFault("..;.", 4);
        landFault("..;.;..", 4);
        landFault("..;...", 5);
        landFault("..;..x", 5);
        landFault(". .", 1);
        landFault("L", 0);
        landFault(".;.;.;.;.;.", -1);
        landFault(".;.;.;.;.;.;", 12);
        landFault(".;.;.;.;.;.;.", 12);
        landFault(".;.;.;.;.;.;;", 12);
        landFault(".;.;.;.;.;.;x", 12);
        landFault("......;......;......;......;......;......", -1);
        landFault("......;......;......;......;......;.....", 40);
        landFault("......;......;......;......;......;", 35);
    }

    private static void housesFault(String houses, int want) {
        HedgehogBorder x = Check.with("", houses);
        due("fault(1) of " + houses, x.fault(1), want);
        due("bytes of " + houses, x.count(3), houses.length());
        if (want != HedgehogBorder.NONE) {
            due("houses of " + houses, x.count(1), 0);
        }
    }

    private static void faultOfHouses() {
        housesFault("", -1);
        housesFault("0", 1);
        housesFault("00", 2);
        housesFault("000", -1);
        housesFault("399", -1);
        housesFault("400", 0);
        housesFault("/00", 0);
        housesFault("3:0", 1);
        housesFault("3/0", 1);
        housesFault("39:", 2);
        housesFault("39/", 2);
        housesFault("0000", 3);
        housesFault("000;", 4);
        housesFault("000;;", 4);
        housesFault(";", 0);
        housesFault("0;", 1);
        housesFault("000;4", 4);
        housesFault("000;00", 6);
        housesFault("000;111;222;333;000;111;222;333", -1);
        due("eight houses", Check.with("", "000;111;222;333;000;111;222;333").count(1), 8);
        due("two on one cell", Check.with("", "000;001").count(1), 2);
    }

    private static void cell() {
        HedgehogBorder x = Check.with(".#;lw", "");
        due("open", x.cell(0), 0);
        due("wall", x.cell(1), 1);
        due("leaves", x.cell(2), 2);
        due("worms", x.cell(3), 3);
        due("no such cell", x.cell(4), -1);
        due("no such cell", x.cell(35), -1);
        due("cell(36)", x.cell(36), -2);
        due("cell(-1)", x.cell(-1), -2);
    }

    private static void house() {
        HedgehogBorder x = Check.with(".", "390;017");
        due("house(0, 0)", x.house(0, 0), 39);
        due("house(0, 1)", x.house(0, 1), 0);
        due("house(1, 0)", x.house(1, 0), 1);
        due("house(1, 1)", x.house(1, 1), 7);
        due("house(2, 0)", x.house(2, 0), -2);
        due("house(-1, 0)", x.house(-1, 0), -2);
        due("house(0, 2)", x.house(0, 2), -2);
        due("house(0, -1)", x.house(0, -1), -2);
        x.type(1, 'x');
        due("none with a fault", x.house(0, 0), -2);
    }

    private static void set() {
        HedgehogBorder x = Check.with("..;..", "");
        due("set(-1, 0)", x.set(-1, 0), -2);
        due("set(2, 0)", x.set(2, 0), -2);
        due("set(0, -1)", x.set(0, -1), -2);
        due("set(0, 6)", x.set(0, 6), -2);
        due("set(1, -1)", x.set(1, -1), -2);
        due("set(1, 11)", x.set(1, 11), -2);
        due("set(0, 1)", x.set(0, 1), 0);
        due("it begins there", x.at(0, 0), 2);
        due("set(0, 5)", x.set(0, 5), 1);
        due("set(1, 0)", x.set(1, 0), 10);
        due("set(1, 10)", x.set(1, 10), 0);
        due("set(0, 0)", x.set(0, 0), 5);
    }

    private static void bowlAndDog() {
        HedgehogBorder x = new HedgehogBorder();
        due("bowl(-1, 0)", x.bowl(-1, 0), -2);
        due("bowl(10, 0)", x.bowl(10, 0), -2);
        due("bowl(0, -1)", x.bowl(0, -1), -2);
        due("bowl(0, 36)", x.bowl(0, 36), -2);
        due("dog(-1, 0)", x.dog(-1, 0), -2);
        due("dog(10, 0)", x.dog(10, 0), -2);
        due("dog(0, -1)", x.dog(0, -1), -2);
        due("dog(0, 36)", x.dog(0, 36), -2);
        due("no bowls", x.count(4), 0);
        due("no dogs", x.count(5), 0);
        for (int i = 1; i <= 8; i++) {
            due("bowl " + i, x.bowl(9, 35), i);
            due("dog " + i, x.dog(i, i), i);
        }
        due("a ninth bowl", x.bowl(0, 0), -4);
        due("a ninth dog", x.dog(0, 0), -4);
        due("a ninth bowl that may not be", x.bowl(10, 0), -2);
        due("a ninth dog that may not be", x.dog(0, 36), -2);
        due("eight bowls", x.count(4), 8);
        due("eight dogs", x.count(5), 8);
    }

    private static void back() {
        HedgehogBorder x = Check.with("..;..;..", "");
        due("back(-1)", x.back(-1), -2);
        due("back(2)", x.back(2), -2);
        due("back(0) of none", x.back(0), -3);
        due("back(1) of none", x.back(1), -3);
        x.bowl(0, 2);
        x.bowl(1, 2);
        x.dog(0, 1);
        due("drawn south", x.at(1, 1), 2);
        due("back(0)", x.back(0), 1);
        due("the last one is undone", x.at(0, 1), 2);
        due("back(0)", x.back(0), 0);
        due("driven south", x.at(0, 1), 2);
        due("back(1)", x.back(1), 0);
        due("neither", x.at(0, 1), 1);
        due("back(0) of none", x.back(0), -3);
    }

    private static void readInto(HedgehogBorder x, int form, int... items) {
        x.sheet(0, form, items.length);
        for (int i = 0; i < items.length; i++) {
            x.lay(0, form, i, items[i]);
        }
    }

    private static void read() {
        HedgehogBorder x = Check.with("..;..;..", "");
        due("read(-1)", x.read(-1), -2);
        due("read(4)", x.read(4), -2);
        due("read(0) of a lost one", x.read(0), -11);
        due("its finding", x.count(8), 1);
        readInto(x, 0);
        due("read an empty one", x.read(0), 0);
        readInto(x, 0, 3);
        due("half a bowl", x.read(0), 0);
        readInto(x, 1, 9, 35, 0, 2, 5);
        due("two and a half", x.read(0), 2);
        due("two bowls", x.count(4), 2);
        due("night, then cell", x.at(0, 1), 2);
        readInto(x, 2, 1, 2, 0, 36, 0, 0);
        due("ends at one that may not be", x.read(0), 1);
        due("they come behind those that are", x.count(4), 3);
        due("the third", x.at(1, 1), 2);
        readInto(x, 2, -1, 0);
        due("no such night", x.read(0), 0);
        readInto(x, 2, 10, 0);
        due("no such night", x.read(0), 0);
        readInto(x, 2, 0, -1);
        due("no such cell", x.read(0), 0);
        readInto(x, 0, new int[20]);
        due("eight at most", x.read(0), 5);
        due("eight", x.count(4), 8);
        due("none more", x.read(0), 0);
        due("the finding stays", x.count(8), 1);
        due("the last sheet", x.sheet(3, 0, 0) + x.read(3), 0);
    }
}
