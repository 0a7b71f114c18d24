/** Promises 31 to 38: sheets, counts, the digest. */
public final class SheetsTest {
    private static final Check CHECK = new Check("SheetsTest");
    private static final int LEAST = Integer.MIN_VALUE;

    private SheetsTest() {
    }

    public static void main(String[] args) {
        sheet();
        lose();
        lay();
        get();
        copyRefusals();
        copy();
        write();
        count();
        digestOfNothing();
        digestByItsParts();
        refusalsChangeNothing();
        CHECK.end();
    }

    private static void due(String what, long got, long want) {
        CHECK.due(what, got, want);
    }

    private static void sheet() {
        HedgehogBorder x = new HedgehogBorder();
        due("sheet(-1, 0, 0)", x.sheet(-1, 0, 0), -2);
        due("sheet(4, 0, 0)", x.sheet(4, 0, 0), -2);
        due("sheet(0, -1, 0)", x.sheet(0, -1, 0), -2);
        due("sheet(0, 3, 0)", x.sheet(0, 3, 0), -2);
        due("sheet(0, 0, 61)", x.sheet(0, 0, 61), -2);
        due("BAD comes ahead of SIZE", x.sheet(0, 3, -1), -2);
        due("no finding yet", x.count(8), 0);
        due("sheet(0, 0, -1)", x.sheet(0, 0, -1), -15);
        due("its finding", x.count(8), 5);
        due("the least size", x.sheet(0, 0, LEAST), -15);
        due("still lost", x.lose(0), -11);
        due("sheet(3, 2, 60)", x.sheet(3, 2, 60), 60);
        due("sheet(0, 1, 0)", x.sheet(0, 1, 0), 0);
        due("no items", x.get(0, 1, 0), LEAST);
        due("items are 0", x.get(3, 2, 59), 0);
        x.lay(3, 2, 1, 77);
        due("a new row", x.sheet(3, 2, 2), 2);
        due("is of 0 anew", x.get(3, 2, 1), 0);
        x.lay(3, 2, 1, 5);
        due("refused", x.sheet(3, 2, -1), -15);
        due("the old row stays", x.get(3, 2, 1), 5);
    }

    private static void lose() {
        HedgehogBorder x = new HedgehogBorder();
        due("lose(-1)", x.lose(-1), -2);
        due("lose(4)", x.lose(4), -2);
        due("lose(0)", x.lose(0), -11);
        due("its finding", x.count(8), 1);
        x.sheet(0, 0, 7);
        due("lose(0)", x.lose(0), 7);
        due("lose(0) again", x.lose(0), -11);
        x.sheet(0, 1, 0);
        due("lose an empty one", x.lose(0), 0);
    }

    private static void lay() {
        HedgehogBorder x = new HedgehogBorder();
        x.sheet(0, 0, 3);
        x.sheet(1, 1, 3);
        x.sheet(2, 2, 3);
        due("lay(-1, ..)", x.lay(-1, 0, 0, 0), -2);
        due("lay(4, ..)", x.lay(4, 0, 0, 0), -2);
        due("lay(0, -1, ..)", x.lay(0, -1, 0, 0), -2);
        due("lay(0, 3, ..)", x.lay(0, 3, 0, 0), -2);
        due("BAD form of a lost one", x.lay(3, 3, 0, 0), -2);
        due("lost", x.lay(3, 0, 9, 0), -11);
        due("another form, ahead of the index", x.lay(0, 1, 9, 0), -13);
        due("its finding", x.count(8), 3);
        due("no item 3", x.lay(0, 0, 3, 0), -12);
        due("its finding", x.count(8), 2);
        due("no item -1", x.lay(0, 0, -1, 0), -12);
        due("byte", x.lay(0, 0, 0, 0x1234567F), 1);
        due("byte", x.get(0, 0, 0), 127);
        x.lay(0, 0, 1, 128);
        due("byte below 0", x.get(0, 0, 1), -128);
        x.lay(1, 1, 0, 0x12348000);
        due("short below 0", x.get(1, 1, 0), -32768);
        x.lay(1, 1, 2, 32767);
        due("short", x.get(1, 1, 2), 32767);
        x.lay(2, 2, 2, LEAST + 1);
        due("int", x.get(2, 2, 2), LEAST + 1);
    }

    private static void get() {
        HedgehogBorder x = new HedgehogBorder();
        x.sheet(0, 1, 2);
        due("get(-1, ..)", x.get(-1, 0, 0), LEAST);
        due("get(4, ..)", x.get(4, 0, 0), LEAST);
        due("get(0, -1, ..)", x.get(0, -1, 0), LEAST);
        due("get(0, 3, ..)", x.get(0, 3, 0), LEAST);
        due("BAD is no finding", x.count(8), 0);
        due("lost", x.get(1, 0, 0), LEAST);
        due("NULL", x.count(8), 1);
        due("another form", x.get(0, 0, 5), LEAST);
        due("CAST", x.count(8), 3);
        due("no item", x.get(0, 1, 2), LEAST);
        due("INDEX", x.count(8), 2);
        x.lay(0, 1, 1, 9);
        due("get(0, 1, 1)", x.get(0, 1, 1), 9);
        due("the finding stays", x.count(8), 2);
        due("no item -1", x.get(0, 1, -1), LEAST);
    }

    private static void copyRefusals() {
        HedgehogBorder x = new HedgehogBorder();
        x.sheet(0, 0, 3);
        x.sheet(1, 1, 3);
        x.sheet(2, 0, 5);
        due("copy(-1, ..)", x.copy(-1, 0, 0, 0, 0), -2);
        due("copy(4, ..)", x.copy(4, 0, 0, 0, 0), -2);
        due("copy to -1", x.copy(0, 0, -1, 0, 0), -2);
        due("copy to 4, from a lost one", x.copy(3, 0, 4, 0, 0), -2);
        due("from a lost one", x.copy(3, -1, 0, 0, 0), -11);
        due("to a lost one", x.copy(0, 0, 3, 0, -1), -11);
        due("unlike forms, ahead of the index", x.copy(0, -1, 1, 0, 0), -14);
        due("its finding", x.count(8), 4);
        due("i below 0", x.copy(0, -1, 2, 0, 1), -12);
        due("j below 0", x.copy(0, 0, 2, -1, 1), -12);
        due("n below 0", x.copy(0, 0, 2, 0, -1), -12);
        due("not so many in s", x.copy(0, 1, 2, 0, 3), -12);
        due("not so many in t", x.copy(2, 0, 0, 1, 3), -12);
        due("beyond s", x.copy(0, 4, 2, 0, 0), -12);
        due("far beyond", x.copy(0, Integer.MAX_VALUE, 2, 0, 1), -12);
        due("far too many", x.copy(0, 1, 2, 0, Integer.MAX_VALUE), -12);
        due("none from the end", x.copy(0, 3, 2, 5, 0), 1);
    }

    private static void copy() {
        HedgehogBorder x = new HedgehogBorder();
        x.sheet(0, 2, 5);
        x.sheet(1, 2, 3);
        for (int i = 0; i < 5; i++) {
            x.lay(0, 2, i, i + 1);
        }
        due("to another", x.copy(0, 2, 1, 1, 2), 1);
        due("ahead", x.get(1, 2, 0), 0);
        due("from 2", x.get(1, 2, 1), 3);
        due("from 3", x.get(1, 2, 2), 4);
        due("to itself, ahead", x.copy(0, 0, 0, 1, 4), 1);
        for (int i = 0; i < 5; i++) {
            due("as they were " + i, x.get(0, 2, i), i == 0 ? 1 : i);
        }
        due("to itself, back", x.copy(0, 2, 0, 0, 3), 1);
        due("back 0", x.get(0, 2, 0), 2);
        due("back 1", x.get(0, 2, 1), 3);
        due("back 2", x.get(0, 2, 2), 4);
        due("back 3", x.get(0, 2, 3), 3);
        x.sheet(2, 2, 5);
        due("all of it", x.copy(0, 0, 2, 0, 5), 1);
        due("its last", x.get(2, 2, 4), 4);
    }

    private static void write() {
        HedgehogBorder x = Check.with("...;#..", "");
        due("write(-1, 0)", x.write(-1, 0), -2);
        due("write(10, 0)", x.write(10, 0), -2);
        due("write(0, -1)", x.write(0, -1), -2);
        due("write(0, 4)", x.write(0, 4), -2);
        due("lost", x.write(0, 0), -11);
        x.sheet(0, 0, 0);
        due("no items", x.write(0, 0), 0);
        x.sheet(0, 0, 2);
        due("two", x.write(9, 0), 2);
        due("step 1", x.get(0, 0, 1), 1);
        x.sheet(1, 2, 60);
        x.lay(1, 2, 25, 6);
        due("25 at most", x.write(0, 1), 25);
        due("behind its last step", x.get(1, 2, 24), 2);
        due("the rest stays", x.get(1, 2, 25), 6);
        x.set(0, 1);
        x.sheet(2, 1, 3);
        due("it does not walk", x.write(0, 2), 3);
        due("NONE", x.get(2, 1, 2), -1);
        x.write(0, 0);
        due("NONE as a byte", x.get(0, 0, 0), -1);
        x.sheet(3, 0, 1);
        due("the last sheet", x.write(0, 3), 1);
    }

    private static void count() {
        HedgehogBorder x = Check.with("...;...", "001;002");
        x.bowl(0, 0);
        x.bowl(0, 0);
        x.bowl(0, 0);
        x.dog(0, 0);
        x.seen(0, 0, 0);
        x.seen(0, 0, 0);
        x.lose(0);
        int[] want = {6, 2, 7, 7, 3, 1, 3, 2, 1};
        for (int what = 0; what < want.length; what++) {
            due("count(" + what + ")", x.count(what), want[what]);
        }
        due("count(-1)", x.count(-1), -2);
        due("count(9)", x.count(9), -2);
        due("BAD is no finding", x.count(8), 1);
    }

    private static void digestOfNothing() {
        long h = 17;
        // count() 0 to 7, two faults; of three nights at(), at(), goes(), ask(), taxes(); the rest.
        int[] parts = {0, 0, 0, 0, 0, 0, 0, 0, -1, -1,
            -1, -1, 0, -1, 0, 0, -1, -1, 0, -1, 0, 0, -1, -1, 0, -1, 0, 0,
            -1, -1, -1, -1, -1, -1, 0, 63, -1, 0};
        for (int part : parts) {
            h = 31 * h + part;
        }
        due("digest of a new object", new HedgehogBorder().digest(), h);
    }

    private static void digestByItsParts() {
        HedgehogBorder x = Check.with("..l.w;.#l..;l..#.;.w.l.", "025;103;187;121;394");
        x.bowl(0, 10);
        x.bowl(1, 16);
        x.bowl(3, 5);
        x.bowl(4, 7);
        x.dog(0, 2);
        x.dog(5, 12);
        x.seen(0, 1, 1);
        due("digest", x.digest(), Digest.parts(x));
        x.set(0, 2);
        x.set(1, 6);
        due("digest from row 2", x.digest(), Digest.parts(x));
        due("digest again", x.digest(), Digest.parts(x));
        x.type(0, ';');
        due("digest with a fault", x.digest(), Digest.parts(x));
        HedgehogBorder y = Check.with("......;......;......;.....w", "005;073;147;211;174;230");
        y.bowl(1, 6);
        y.bowl(2, 12);
        y.bowl(5, 6);
        y.bowl(5, 12);
        y.dog(9, 1);
        due("digest of many changes", y.digest(), Digest.parts(y));
        y.set(0, 3);
        due("digest from row 3", y.digest(), Digest.parts(y));
    }

    /** BAD and NOT leave even the latest finding; a finding leaves all but that. */
    private static void refusalsChangeNothing() {
        HedgehogBorder x = Check.with("..;..", "011");
        x.sheet(0, 0, 2);
        x.lay(0, 0, 1, 4);
        x.lose(3);
        String before = States.told(x);
        x.get(1, 0, 0);
        int finding = x.count(8);
        long refusals = x.type(0, 256) + x.undo(2) + x.set(0, 6) + x.bowl(0, 36) + x.dog(10, 0) + x.back(0)
            + x.read(4) + x.layOut(0, 0, 0, 2) + x.seen(0, 8, 0) + x.sheet(0, 0, 61) + x.lay(0, 3, 0, 0)
            + x.copy(0, 0, 4, 0, 0) + x.write(10, 0) + x.lose(4);
        due("all refused", refusals, -2 * 13 - 3);
        due("the finding stays", x.count(8), finding);
        due("findings", x.sheet(0, 0, -1) + x.lay(0, 0, 2, 0) + x.lay(0, 1, 0, 0) + x.copy(0, 0, 0, 1, 2)
            + x.write(0, 1) + x.read(1), -15 - 12 - 13 - 12 - 11 - 11);
        due("nothing is changed", States.told(x).equals(before) ? 1 : 0, 1);
    }
}
