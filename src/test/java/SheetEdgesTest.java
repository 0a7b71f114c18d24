/** The sentences on sheets, counts and the digest that name a boundary, each by a test of its own. */
public final class SheetEdgesTest {
    private static final Check CHECK = new Check("SheetEdgesTest");
    private static final int NONE = -1, BAD = -2;
    private static final int NULL = -11, INDEX = -12, CAST = -13, STORE = -14, SIZE = -15;
    private static final int LEAST = Integer.MIN_VALUE, GREATEST = Integer.MAX_VALUE;
    private static final int[] ENDS = {LEAST, LEAST + 1, GREATEST - 1, GREATEST};
    private static final int[] NUMBERS = {LEAST, LEAST + 1, -65537, -65536, -32769, -32768, -32767, -257, -256, -129,
        -128, -127, -2, -1, 0, 1, 126, 127, 128, 129, 255, 256, 257, 32767, 32768, 65535, 65536, 0x12345678,
        GREATEST - 1, GREATEST};

    private SheetEdgesTest() {
    }

    public static void main(String[] args) {
        sheetsAreLostAtFirst();
        zeroToSixtyItems();
        sizeBelow0();
        itemsAre0AtFirst();
        aNewRowOfAForm();
        loseItsItems();
        layTheLowestBits();
        layAndGetAtTheirBounds();
        getTheLeastInt();
        copyWhatThereIs();
        copyAsTheyWere();
        copyEachForm();
        copyOfNone();
        writeAsManyAsThereAreItems();
        writeEachForm();
        writeNone();
        writeBehindItsLastStep();
        countAtItsBounds();
        countWithAFault();
        digestOfEachState();
        digestAtEachStart();
        digestOfLateChanges();
        digestWraps();
        CHECK.end();
    }

    private static void due(String what, long got, long want) {
        CHECK.due(what, got, want);
    }

    private static long kept(int form, int v) {
        return form == 0 ? (byte) v : form == 1 ? (short) v : v;
    }

    private static HedgehogBorder counting(int form, int s, int n) {
        HedgehogBorder x = new HedgehogBorder();
        x.sheet(s, form, n);
        for (int i = 0; i < n; i++) {
            x.lay(s, form, i, i + 1);
        }
        return x;
    }

    // ---- Promises 31 and 32

    private static void sheetsAreLostAtFirst() {
        HedgehogBorder x = new HedgehogBorder();
        for (int s = 0; s < 4; s++) {
            due("lose(" + s + ")", x.lose(s), NULL);
            due("read(" + s + ")", x.read(s), NULL);
            due("write(0, " + s + ")", x.write(0, s), NULL);
            due("copy(" + s + ", ..)", x.copy(s, 0, s, 0, 0), NULL);
            for (int form = 0; form < 3; form++) {
                due("lay(" + s + ", " + form + ", ..)", x.lay(s, form, 0, 0), NULL);
                due("get(" + s + ", " + form + ", 0)", x.get(s, form, 0), LEAST);
            }
        }
        due("NULL", x.count(8), 1);
    }

    private static void zeroToSixtyItems() {
        for (int form = 0; form < 3; form++) {
            for (int s = 0; s < 4; s++) {
                HedgehogBorder x = new HedgehogBorder();
                for (int n : new int[] {0, 1, 59, 60}) {
                    due("sheet(" + s + ", " + form + ", " + n + ")", x.sheet(s, form, n), n);
                    due("an item behind " + n, x.lay(s, form, n, 1), INDEX);
                    due("the last of " + n, x.lay(s, form, n - 1, 1), n == 0 ? INDEX : 1);
                    for (int bad : new int[] {61, 62, GREATEST - 1, GREATEST}) {
                        due("sheet(" + s + ", " + form + ", " + bad + ")", x.sheet(s, form, bad), BAD);
                    }
                    due("it has as many as it had", x.lose(s), n);
                }
            }
        }
        HedgehogBorder x = new HedgehogBorder();
        for (int bad : new int[] {LEAST, -1, 4, GREATEST}) {
            due("no SHEET " + bad, x.sheet(bad, 0, 1), BAD);
        }
        for (int bad : new int[] {LEAST, -1, 3, GREATEST}) {
            due("no FORM " + bad, x.sheet(0, bad, 1), BAD);
        }
        due("none is made", x.lose(0), NULL);
    }

    private static void sizeBelow0() {
        for (int n : new int[] {-1, -2, -60, -61, LEAST + 1, LEAST}) {
            HedgehogBorder x = counting(2, 1, 3);
            due("sheet(1, 0, " + n + ")", x.sheet(1, 0, n), SIZE);
            due("SIZE", x.count(8), 5);
            due("the row stays", x.get(1, 2, 2), 3);
            due("sheet(0, 0, " + n + ")", x.sheet(0, 0, n), SIZE);
            due("still LOST", x.lose(0), NULL);
        }
    }

    private static void itemsAre0AtFirst() {
        for (int form = 0; form < 3; form++) {
            HedgehogBorder x = counting(form, 2, 60);
            due("an old row", x.get(2, form, 59), 60);
            x.sheet(2, form, 60);
            for (int i = 0; i < 60; i++) {
                due("item " + i + " of a new row", x.get(2, form, i), 0);
            }
            x.lay(2, form, 7, 7);
            x.lose(2);
            x.sheet(2, form, 8);
            due("behind a loss too", x.get(2, form, 7), 0);
        }
    }

    private static void aNewRowOfAForm() {
        HedgehogBorder x = counting(0, 0, 5);
        x.sheet(1, 1, 2);
        x.lay(1, 1, 1, 9);
        due("a new FORM", x.sheet(0, 2, 3), 3);
        due("CAST of the old FORM", x.lay(0, 0, 0, 1), CAST);
        due("of the new one", x.lay(0, 2, 2, GREATEST), 1);
        due("the other SHEET stays", x.get(1, 1, 1), 9);
        due("shorter", x.lay(0, 2, 3, 1), INDEX);
    }

    private static void loseItsItems() {
        for (int n : new int[] {0, 1, 59, 60}) {
            HedgehogBorder x = new HedgehogBorder();
            x.sheet(3, 1, n);
            x.sheet(2, 1, 4);
            due("lose " + n, x.lose(3), n);
            due("it is LOST", x.lose(3), NULL);
            due("for get()", x.get(3, 1, 0), LEAST);
            due("NULL", x.count(8), 1);
            due("for lay()", x.lay(3, 1, 0, 0), NULL);
            due("for copy()", x.copy(2, 0, 3, 0, 0), NULL);
            due("for read()", x.read(3), NULL);
            due("for write()", x.write(0, 3), NULL);
            due("the other SHEET stays", x.lose(2), 4);
        }
        for (int bad : new int[] {LEAST, -1, 4, GREATEST}) {
            due("lose(" + bad + ")", new HedgehogBorder().lose(bad), BAD);
        }
    }

    // ---- Promises 33 and 34

    private static void layTheLowestBits() {
        for (int form = 0; form < 3; form++) {
            HedgehogBorder x = new HedgehogBorder();
            x.sheet(0, form, 2);
            for (int v : NUMBERS) {
                due("lay " + v + " as FORM " + form, x.lay(0, form, 0, v), 1);
                due("get " + v + " as FORM " + form, x.get(0, form, 0), kept(form, v));
                due("the item beside it", x.get(0, form, 1), 0);
            }
            due("no FINDING", x.count(8), 0);
        }
    }

    private static void layAndGetAtTheirBounds() {
        for (int form = 0; form < 3; form++) {
            for (int n : new int[] {0, 1, 3, 60}) {
                HedgehogBorder x = counting(form, 3, n);
                for (int i : new int[] {LEAST, LEAST + 1, -1, 0, 1, n - 1, n, n + 1, 59, 60, 61, GREATEST}) {
                    boolean is = i >= 0 && i < n;
                    x.sheet(0, 0, -1);
                    due("item " + i + " of " + n + ": get", x.get(3, form, i), is ? i + 1 : LEAST);
                    due("item " + i + " of " + n + ": count(8)", x.count(8), is ? 5 : 2);
                    due("item " + i + " of " + n + ": lay", x.lay(3, form, i, i + 1), is ? 1 : INDEX);
                    due("as another FORM: lay", x.lay(3, (form + 1) % 3, i, 99), CAST);
                    due("as another FORM: get", x.get(3, (form + 2) % 3, i), LEAST);
                    due("as another FORM: count(8)", x.count(8), 3);
                }
            }
        }
        HedgehogBorder x = counting(0, 0, 1);
        for (int bad : new int[] {LEAST, -1, 4, GREATEST}) {
            due("lay: no SHEET " + bad, x.lay(bad, 0, 0, 0), BAD);
            due("get: no SHEET " + bad, x.get(bad, 0, 0), LEAST);
        }
        for (int bad : new int[] {LEAST, -1, 3, GREATEST}) {
            due("lay: no FORM " + bad, x.lay(0, bad, 0, 0), BAD);
            due("get: no FORM " + bad, x.get(0, bad, 0), LEAST);
        }
        due("BAD is no FINDING", x.count(8), 0);
    }

    private static void getTheLeastInt() {
        HedgehogBorder x = new HedgehogBorder();
        x.sheet(0, 2, 1);
        x.lay(0, 2, 0, LEAST);
        due("an item that is the least int", x.get(0, 2, 0), LEAST);
        due("count(8) tells: no FINDING", x.count(8), 0);
        due("no item", x.get(0, 2, 1), LEAST);
        due("count(8) tells: INDEX", x.count(8), 2);
    }

    // ---- Promise 35

    /** All starts and lengths about two sizes, and the ends of all ints, by long sums that cannot wrap. */
    private static void copyWhatThereIs() {
        int[] some = {LEAST, LEAST + 1, -1, 0, 1, 2, 3, 4, 5, GREATEST - 1, GREATEST};
        for (int from : new int[] {0, 1, 3, 4}) {
            for (int to : new int[] {0, 1, 3}) {
                for (int i : some) {
                    for (int j : some) {
                        HedgehogBorder x = counting(2, 0, from);
                        x.sheet(1, 2, to);
                        for (int n : some) {
                            boolean is = i >= 0 && j >= 0 && n >= 0 && (long) i + n <= from && (long) j + n <= to;
                            String what = "copy(0, " + i + ", 1, " + j + ", " + n + ") of " + from + " to " + to;
                            due(what, x.copy(0, i, 1, j, n), is ? 1 : INDEX);
                            for (int k = 0; is && k < n; k++) {
                                due(what + ": item " + (j + k), x.get(1, 2, j + k), i + k + 1);
                            }
                        }
                    }
                }
            }
        }
    }

    private static void copyAsTheyWere() {
        for (int i = 0; i <= 6; i++) {
            for (int j = 0; j <= 6; j++) {
                for (int n = 0; n <= 6 - Math.max(i, j); n++) {
                    HedgehogBorder x = counting(1, 2, 6);
                    due("copy to itself", x.copy(2, i, 2, j, n), 1);
                    for (int k = 0; k < 6; k++) {
                        int want = k >= j && k < j + n ? k - j + i + 1 : k + 1;
                        due("copy(2, " + i + ", 2, " + j + ", " + n + "): item " + k, x.get(2, 1, k), want);
                    }
                }
            }
        }
        HedgehogBorder x = counting(2, 0, 60);
        due("sixty, one further", x.copy(0, 0, 0, 1, 59), 1);
        due("the first stays", x.get(0, 2, 0), 1);
        due("the last", x.get(0, 2, 59), 59);
        due("one too many", x.copy(0, 0, 0, 1, 60), INDEX);
        due("all of it", x.copy(0, 0, 0, 0, 60), 1);
        due("61", x.copy(0, 0, 0, 0, 61), INDEX);
    }

    private static void copyEachForm() {
        for (int form = 0; form < 3; form++) {
            for (int other = 0; other < 3; other++) {
                HedgehogBorder x = counting(form, 0, 2);
                x.lay(0, form, 1, -1);
                x.sheet(3, other, 2);
                due("FORM " + form + " to FORM " + other, x.copy(0, 0, 3, 0, 2), form == other ? 1 : STORE);
                due("its item", x.get(3, other, 1), form == other ? -1 : 0);
                due("what it came from", x.get(0, form, 1), -1);
            }
        }
        HedgehogBorder x = counting(0, 0, 2);
        for (int bad : new int[] {LEAST, -1, 4, GREATEST}) {
            due("no SHEET " + bad, x.copy(bad, 0, 0, 0, 1), BAD);
            due("to no SHEET " + bad, x.copy(0, 0, bad, 0, 1), BAD);
        }
        due("BAD is no FINDING", x.count(8), 0);
    }

    private static void copyOfNone() {
        HedgehogBorder x = counting(0, 0, 3);
        x.sheet(1, 0, 0);
        due("none to an empty one", x.copy(0, 3, 1, 0, 0), 1);
        due("none from an empty one", x.copy(1, 0, 0, 3, 0), 1);
        due("from behind the end", x.copy(0, 4, 1, 0, 0), INDEX);
        due("to behind the end", x.copy(0, 0, 1, 1, 0), INDEX);
        due("one to an empty one", x.copy(0, 0, 1, 0, 1), INDEX);
    }

    // ---- Promise 36

    private static void writeAsManyAsThereAreItems() {
        for (int n : new int[] {0, 1, 2, 23, 24, 25, 26, 59, 60}) {
            HedgehogBorder x = counting(2, 3, n);
            Check.typed(x, 0, ".#.;.#.");
            int many = Math.min(n, 25);
            due("write to " + n, x.write(9, 3), many);
            for (int k = 0; k < n; k++) {
                due("item " + k + " of " + n, x.get(3, 2, k), k < many ? 3 * (k % 2) : k + 1);
            }
            due("as many items as it had", x.lose(3), n);
        }
        HedgehogBorder x = counting(0, 0, 1);
        for (int bad : new int[] {LEAST, -1, 10, GREATEST}) {
            due("write(" + bad + ", 0)", x.write(bad, 0), BAD);
        }
        for (int bad : new int[] {LEAST, -1, 4, GREATEST}) {
            due("write(0, " + bad + ")", x.write(0, bad), BAD);
        }
        due("the item stays", x.get(0, 0, 0), 1);
    }

    private static void writeEachForm() {
        for (int form = 0; form < 3; form++) {
            HedgehogBorder x = Check.with(States.WIDEST, "");
            x.set(0, 5);
            x.sheet(form, form, 25);
            due("FORM " + form, x.write(0, form), 25);
            for (int k = 0; k < 25; k++) {
                due("item " + k, x.get(form, form, k), 30 + Math.min(k, 5));
            }
            x.set(1, 9);
            due("NIGHT 8 is ahead of FROST", x.write(8, form), 25);
            due("its first", x.get(form, form, 0), 30);
            due("NIGHT 9 is not", x.write(9, form), 25);
            for (int k = 0; k < 25; k++) {
                due("NONE " + k, x.get(form, form, k), NONE);
            }
        }
    }

    private static void writeNone() {
        HedgehogBorder x = new HedgehogBorder();
        x.sheet(0, 1, 60);
        x.lay(0, 1, 25, 5);
        due("no land", x.write(0, 0), 25);
        due("NONE behind 0 STEPS", x.get(0, 1, 0), NONE);
        due("NONE behind 24", x.get(0, 1, 24), NONE);
        due("the rest stays", x.get(0, 1, 25), 5);
        due("no FINDING", x.count(8), 0);
    }

    private static void writeBehindItsLastStep() {
        HedgehogBorder x = Check.with("...;...", "");
        x.sheet(0, 0, 30);
        due("25 at most", x.write(0, 0), 25);
        for (int k = 0; k < 25; k++) {
            due("as at(0, " + k + ")", x.get(0, 0, k), x.at(0, k));
        }
        due("its items read as BOWLS: eight", x.read(0), 8);
    }

    // ---- Promises 37 and 38

    private static void countAtItsBounds() {
        HedgehogBorder x = States.make("full");
        int[] want = {36, 8, 41, 31, 8, 8, 6, 8, 5};
        for (int what = 0; what <= 8; what++) {
            due("full: count(" + what + ")", x.count(what), want[what]);
        }
        for (int end : ENDS) {
            due("count(" + end + ")", x.count(end), BAD);
        }
        due("count(-1)", x.count(-1), BAD);
        due("count(9)", x.count(9), BAD);
    }

    private static void countWithAFault() {
        HedgehogBorder x = States.make("ill");
        int[] want = {0, 0, 5, 3, 2, 1, 0, 1, 5};
        for (int what = 0; what <= 8; what++) {
            due("ill: count(" + what + ")", x.count(what), want[what]);
        }
    }

    private static void digestOfEachState() {
        for (String state : States.NAMES) {
            HedgehogBorder x = States.make(state);
            due("digest() of " + state, x.digest(), Digest.parts(States.make(state)));
            due("again", x.digest(), Digest.parts(States.make(state)));
            x.sheet(0, 0, 7);
            x.lose(0);
            x.lose(0);
            due("SHEETS and FINDINGS are no part of it", x.digest(), Digest.parts(States.make(state)));
        }
    }

    private static void digestAtEachStart() {
        for (int start = 0; start <= 5; start++) {
            for (int frost : new int[] {0, 1, 3, 4, 9, 10}) {
                HedgehogBorder x = States.make("well");
                x.set(0, start);
                x.set(1, frost);
                HedgehogBorder y = States.make("well");
                y.set(0, start);
                y.set(1, frost);
                due("digest(), START " + start + ", FROST " + frost, x.digest(), Digest.parts(y));
            }
        }
    }

    private static HedgehogBorder late(int night) {
        HedgehogBorder x = Check.with(".#.;.#.;...", "071;011;061");
        x.dog(night, 6);
        x.bowl(night, 0);
        return x;
    }

    private static void digestOfLateChanges() {
        HedgehogBorder to = Check.with("..#.;####", "001");
        due("to and fro, STEP 23", to.at(0, 23), 1);
        due("to and fro, STEP 24", to.at(0, 24), 0);
        due("to and fro: digest()", to.digest(), Digest.parts(to));
        HedgehogBorder x = Check.with("..;..", "011;031");
        x.bowl(9, 2);
        due("NIGHT 8", x.lies(8, 0), 2);
        due("NIGHT 9", x.lies(9, 0), 0);
        due("otherwise in NIGHT 9: digest()", x.digest(), Digest.parts(x));
        for (int night = 0; night < 10; night++) {
            due("otherwise in NIGHT " + night + ": digest()", late(night).digest(), Digest.parts(late(night)));
        }
    }

    private static void digestWraps() {
        java.math.BigInteger h = java.math.BigInteger.valueOf(17);
        int[] parts = {0, 0, 0, 0, 0, 0, 0, 0, -1, -1,
            -1, -1, 0, -1, 0, 0, -1, -1, 0, -1, 0, 0, -1, -1, 0, -1, 0, 0,
            -1, -1, -1, -1, -1, -1, 0, 63, -1, 0};
        for (int part : parts) {
            h = h.multiply(java.math.BigInteger.valueOf(31)).add(java.math.BigInteger.valueOf(part));
        }
        due("it is far more than a long", h.bitLength() > 64 ? 1 : 0, 1);
        due("its lowest 64 bits", new HedgehogBorder().digest(), h.longValue());
    }
}
