/** Promises 21 to 23: the fewest bowls, the heap of leaves, where to live. */
public final class PlansTest {
    private static final Check CHECK = new Check("PlansTest");

    private PlansTest() {
    }

    public static void main(String[] args) {
        layOutRefusals();
        noneNeeded();
        oneBowl();
        twoBowls();
        cannotBe();
        beyondEight();
        rakeRefusals();
        rake();
        rakeInAllNights();
        liveByMostNights();
        live();
        CHECK.end();
    }

    private static void due(String what, long got, long want) {
        CHECK.due(what, got, want);
    }

    private static void plan(String what, HedgehogBorder x, int[] question, int number, int one, int two) {
        due(what + ": how many", x.layOut(question[0], question[1], question[2], -1), number);
        due(what + ": the first", x.layOut(question[0], question[1], question[2], 0), one);
        due(what + ": the second", x.layOut(question[0], question[1], question[2], 1), two);
    }

    private static int[] question(int night, int house, int realm) {
        return new int[] {night, house, realm};
    }

    private static void layOutRefusals() {
        HedgehogBorder x = Check.with("..;..", "001");
        due("layOut(-1, 0, 0, 0)", x.layOut(-1, 0, 0, 0), -2);
        due("layOut(10, 0, 0, 0)", x.layOut(10, 0, 0, 0), -2);
        due("layOut(0, -1, 0, 0)", x.layOut(0, -1, 0, 0), -2);
        due("layOut(0, 1, 0, 0)", x.layOut(0, 1, 0, 0), -2);
        due("layOut(0, 0, -1, 0)", x.layOut(0, 0, -1, 0), -2);
        due("layOut(0, 0, 3, 0)", x.layOut(0, 0, 3, 0), -2);
        due("layOut(0, 0, 0, -2)", x.layOut(0, 0, 0, -2), -2);
        due("layOut(0, 0, 0, 2)", x.layOut(0, 0, 0, 2), -2);
        due("nothing is laid", x.count(4), 0);
    }

    private static void noneNeeded() {
        HedgehogBorder x = Check.with("..;..", "001");
        plan("it is", x, question(0, 0, 2), 0, -1, -1);
    }

    private static void oneBowl() {
        // A bowl at 2 draws it south: 0, 2, 3.
        HedgehogBorder x = Check.with("..;..", "011");
        plan("one", x, question(5, 0, 0), 1, 2, -1);
        due("nothing is laid", x.count(4), 0);
        due("and it walks as it did", x.line(5, 1), 0);
        x.bowl(5, 2);
        due("as planned", x.lies(5, 0), 0);
        HedgehogBorder y = Check.with("..;..", "031");
        y.set(0, 1);
        plan("on the first cell", y, question(0, 0, 1), 1, 0, -1);
        y.dog(0, 0);
        plan("two on the first cell", y, question(0, 0, 1), 2, 0, 0);
    }

    private static void twoBowls() {
        // At 2 it turns south again only for a second bowl.
        HedgehogBorder x = Check.with("..;..;..", "031");
        plan("a row of two", x, question(0, 0, 0), 2, 2, 4);
        HedgehogBorder y = Check.with("..;..", "011");
        y.dog(2, 2);
        plan("two on one cell", y, question(2, 0, 0), 2, 2, 2);
        HedgehogBorder z = Check.with("..;..;..", "011");
        z.bowl(0, 1);
        z.dog(0, 3);
        plan("two are too few", z, question(0, 0, 1), -1, -1, -1);
        plan("two for row 1 or 2", z, question(0, 0, 0), 2, 2, 2);
    }

    private static void cannotBe() {
        HedgehogBorder x = Check.with("..;..", "001;391");
        plan("nothing is above row 0", x, question(0, 0, 1), -1, -1, -1);
        plan("nowhere", x, question(0, 1, 2), -1, -1, -1);
        x.set(1, 0);
        plan("in winter", x, question(0, 0, 2), -1, -1, -1);
        plan("in winter all is as it was", x, question(9, 0, 0), 0, -1, -1);
    }

    private static void beyondEight() {
        HedgehogBorder x = Check.with("..;..", "011");
        for (int i = 0; i < 8; i++) {
            x.bowl(9, 0);
        }
        plan("a ninth, told only", x, question(0, 0, 0), 1, 2, -1);
    }

    private static void rakeRefusals() {
        HedgehogBorder x = Check.with("..;..", "001");
        due("rake(-1, 0, 0)", x.rake(-1, 0, 0), -2);
        due("rake(10, 0, 0)", x.rake(10, 0, 0), -2);
        due("rake(0, -1, 0)", x.rake(0, -1, 0), -2);
        due("rake(0, 1, 0)", x.rake(0, 1, 0), -2);
        due("rake(0, 0, -1)", x.rake(0, 0, -1), -2);
        due("rake(0, 0, 3)", x.rake(0, 0, 3), -2);
    }

    private static void rake() {
        HedgehogBorder x = Check.with("..;..", "011;391");
        due("leaves at 2", x.rake(0, 0, 0), 2);
        due("the land stays", x.cell(2), 0);
        due("it walks as it did", x.at(0, 1), 1);
        due("what is so may stay so", x.rake(0, 0, 2), 0);
        due("cannot be", x.rake(0, 0, 1), -1);
        due("nowhere", x.rake(0, 1, 2), -1);
        HedgehogBorder y = Check.with("lw;lw", "011");
        due("no open cell", y.rake(0, 0, 2), -1);
        HedgehogBorder z = Check.with("#.;l.", "011");
        due("walls and leaves are not raked", z.rake(0, 0, 0), 1);
    }

    private static void rakeInAllNights() {
        // In night 1 the way of night 0 is worth 1 more: leaves at 2 lead there in both.
        HedgehogBorder x = Check.with("..;..", "011");
        x.dog(1, 2);
        due("a dog holds it off in night 1", x.rake(1, 0, 0), -1);
        x.back(1);
        due("all nights", x.rake(1, 0, 0), 2);
        x.set(1, 1);
        due("raked ahead of frost", x.rake(9, 0, 0), 2);
    }

    private static void liveByMostNights() {
        // From night 6 on it keeps to row 1, drawn there once: cell 0 is in realm 0 behind four nights.
        HedgehogBorder x = Check.with("..;..;..", "");
        x.bowl(6, 2);
        due("kept to", x.line(9, 1), 1);
        due("the least of two", x.live(0, 0), 0);
        due("four nights", x.live(0, 1), 4);
        due("cell 4 of all nights", x.live(1, 0), 4);
        due("cell 0 is common", x.live(2, 0), 0);
        due("six nights", x.live(2, 1), 6);
    }

    private static void live() {
        HedgehogBorder x = Check.with("..;#.;..", "011;029");
        due("live(-1, 0)", x.live(-1, 0), -2);
        due("live(3, 0)", x.live(3, 0), -2);
        due("live(0, -1)", x.live(0, -1), -2);
        due("live(0, 2)", x.live(0, 2), -2);
        due("no cell is in realm 0 ever: the least", x.live(0, 0), 0);
        due("behind no night", x.live(0, 1), 0);
        due("common, no house", x.live(2, 0), 0);
        due("common, nights", x.live(2, 1), 10);
        due("no wall", x.live(1, 0), 3);
        due("no wall, nights", x.live(1, 1), 10);
        x.set(1, 0);
        due("in winter the line is half of three", x.live(0, 0), 0);
        due("all nights", x.live(0, 1), 10);
        x.wipe(0);
        due("no land", x.live(0, 0), -1);
        due("no land", x.live(2, 1), -1);
        HedgehogBorder y = Check.with(".#", "001");
        due("a house and a wall", y.live(2, 0), -1);
        due("a house and a wall", y.live(2, 1), -1);
    }
}
