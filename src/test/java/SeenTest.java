import java.util.Arrays;
import java.util.function.Predicate;

/** Promises 24 to 30: what was seen, guesses by it, cats, roaming. */
public final class SeenTest {
    private static final Check CHECK = new Check("SeenTest");

    private SeenTest() {
    }

    public static void main(String[] args) {
        seen();
        forget();
        never();
        began();
        ask();
        catRefusals();
        cat();
        roamRefusals();
        roam();
        CHECK.end();
    }

    private static void due(String what, long got, long want) {
        CHECK.due(what, got, want);
    }

    private static void seen() {
        HedgehogBorder x = new HedgehogBorder();
        due("seen(-1, 0, 0)", x.seen(-1, 0, 0), -2);
        due("seen(10, 0, 0)", x.seen(10, 0, 0), -2);
        due("seen(0, -1, 0)", x.seen(0, -1, 0), -2);
        due("seen(0, 8, 0)", x.seen(0, 8, 0), -2);
        due("seen(0, 0, -1)", x.seen(0, 0, -1), -2);
        due("seen(0, 0, 3)", x.seen(0, 0, 3), -2);
        due("none", x.count(7), 0);
        for (int i = 1; i <= 8; i++) {
            due("seen " + i, x.seen(9, 7, 2), i);
        }
        due("a ninth", x.seen(0, 0, 0), -4);
        due("a ninth that may not be", x.seen(0, 0, 3), -2);
        due("eight", x.count(7), 8);
    }

    private static void forget() {
        HedgehogBorder x = new HedgehogBorder();
        due("forget none", x.forget(), 0);
        x.seen(0, 0, 0);
        x.seen(0, 0, 0);
        due("forget two", x.forget(), 2);
        due("forgotten", x.count(7), 0);
        due("seen anew", x.seen(0, 0, 0), 1);
    }

    private static void never() {
        HedgehogBorder x = Check.with("..;..;..", "011");
        due("no bowls", x.never(), 0);
        x.bowl(0, 2);
        x.bowl(1, 30);
        x.bowl(2, 4);
        due("nothing seen", x.never(), 7);
        x.seen(0, 0, 0);
        due("bowl 0 was", x.never(), 6);
        x.forget();
        x.seen(0, 0, 2);
        due("bowl 0 never was", x.never(), 1);
        x.seen(0, 7, 2);
        due("no such house", x.never(), 0);
        due("bowls stay", x.count(4), 3);
        due("it walks as it did", x.line(0, 1), 1);
    }

    private static void began() {
        HedgehogBorder x = Check.with("..;..;..", "031;391");
        due("nothing seen", x.began(), 63);
        x.seen(0, 0, 2);
        // Rows 3 to 5 are none: the line stays on half of three rows, where the house is.
        due("on its row", x.began(), 2 + 8 + 16 + 32);
        x.forget();
        x.seen(9, 0, 1);
        due("below", x.began(), 1);
        x.seen(9, 1, 1);
        due("nowhere", x.began(), 0);
        x.forget();
        x.seen(9, 2, 1);
        due("no such house", x.began(), 0);
        x.forget();
        x.seen(9, 2, 2);
        Check.typed(x, 1, ";001");
        due("the house that came", x.began(), 1);
        for (int i = 0; i < 4; i++) {
            x.undo(1);
        }
        due("the house that went", x.began(), 0);
        due("START stays", x.set(0, 0), 0);
        due("it walks as it did", x.at(0, 0), 0);
    }

    private static void ask() {
        HedgehogBorder x = Check.with("..;..;..", "391;011;031;051");
        due("ask(-1)", x.ask(-1), -2);
        due("ask(10)", x.ask(10), -2);
        // 391: nowhere by all 6; 011: 0 by five, 2 by one; 031: 1, 2 by four, 0; 051: 1 by five, 2.
        due("parts most", x.ask(0), 2);
        x.seen(0, 2, 2);
        due("by starts left they are alike", x.ask(0), 0);
        x.forget();
        x.seen(0, 0, 0);
        due("no start is left: the least house", x.ask(0), 0);
        HedgehogBorder y = Check.with("..;..;..", "");
        due("no houses", y.ask(0), -1);
        HedgehogBorder u = Check.with("..;..;..", "391;051");
        u.seen(0, 1, 1);
        // All but START 2 are left: 391 is nowhere by five, 051 is in realm 1 by five.
        due("as many", u.ask(0), 0);
        u.forget();
        due("START 2 parts 051", u.ask(0), 1);
        HedgehogBorder t = Check.with("..;..;..", "391;011");
        due("START 0 parts 011", t.ask(0), 1);
        HedgehogBorder z = Check.with("..;..;..", "011;011");
        due("of like ones the least", z.ask(9), 0);
    }

    private static void catRefusals() {
        HedgehogBorder x = Check.with("..", "001");
        due("cat(-1, ..)", x.cat(-1, 0, 0, 0, 0), Check.LONG_BAD);
        due("cat(17, ..)", x.cat(17, 0, 0, 0, 0), Check.LONG_BAD);
        due("no night -1", x.cat(0, -1, 0, 0, 0), Check.LONG_BAD);
        due("no night 10", x.cat(0, 10, 0, 0, 0), Check.LONG_BAD);
        due("no house -1", x.cat(0, 0, -1, 0, 0), Check.LONG_BAD);
        due("no house 1", x.cat(0, 0, 1, 0, 0), Check.LONG_BAD);
        due("no realm -1", x.cat(0, 0, 0, -1, 0), Check.LONG_BAD);
        due("no realm 3", x.cat(0, 0, 0, 3, 0), Check.LONG_BAD);
        due("no what -1", x.cat(0, 0, 0, 0, -1), Check.LONG_BAD);
        due("no what 2", x.cat(0, 0, 0, 0, 2), Check.LONG_BAD);
    }

    private static void chance(String what, HedgehogBorder x, int[] q, long above, long below) {
        due(what + ": above", x.cat(q[0], q[1], q[2], q[3], 0), above);
        due(what + ": below", x.cat(q[0], q[1], q[2], q[3], 1), below);
    }

    private static void cat() {
        HedgehogBorder x = Check.with("..;..", "011;391");
        chance("no bowls, it is", x, new int[] {5, 0, 0, 2}, 1, 1);
        chance("no bowls, it is not", x, new int[] {5, 0, 0, 0}, 0, 1);
        x.bowl(0, 2);
        chance("never there", x, new int[] {0, 0, 0, 0}, 0, 1);
        chance("always there", x, new int[] {16, 0, 0, 0}, 1, 1);
        chance("six sixteenths", x, new int[] {6, 0, 0, 0}, 3, 8);
        chance("else", x, new int[] {6, 0, 0, 2}, 5, 8);
        chance("nowhere", x, new int[] {6, 0, 1, 2}, 0, 1);
        x.bowl(0, 2);
        chance("either of two", x, new int[] {6, 0, 0, 0}, 39, 64);
        x.dog(0, 2);
        chance("both of two", x, new int[] {5, 0, 0, 0}, 25, 256);
        x.back(1);
        x.bowl(9, 2);
        chance("a later bowl does not matter", x, new int[] {6, 0, 0, 0}, 39, 64);
        chance("a way kept from night to night", x, new int[] {6, 8, 0, 0}, 39, 64);
        chance("three, the last night's too", x, new int[] {6, 9, 0, 0}, 512 - 125, 512);
        HedgehogBorder y = Check.with("..;..", "011");
        y.dog(0, 2);
        for (int i = 0; i < 8; i++) {
            y.bowl(0, i < 2 ? 2 : 1);
        }
        // South only if both bowls of 2 are there and none of the six of 1: 1 by 256, 15 by 16 six times.
        chance("eight bowls", y, new int[] {1, 0, 0, 0}, 11390625L, 4294967296L);
        chance("eight bowls, it cannot be", y, new int[] {8, 0, 0, 1}, 0, 1);
        chance("eight bowls, it is always", y, new int[] {16, 0, 0, 2}, 1, 1);
    }

    private static void roamRefusals() {
        HedgehogBorder x = Check.with("..", "");
        due("roam(0, -1, 0)", x.roam(0, -1, 0), -2);
        due("roam(0, 61, 0)", x.roam(0, 61, 0), -2);
        due("roam(0, 0, -1)", x.roam(0, 0, -1), -2);
        due("roam(0, 0, 2)", x.roam(0, 0, 2), -2);
        due("no land", new HedgehogBorder().roam(0, 3, 0), -1);
        due("no land", new HedgehogBorder().roam(0, 3, 1), 0);
    }

    /** Where sixty steps by lots lead on open land of six by six. */
    private static int sixty(int seed) {
        int lot = seed;
        int row = 0;
        int column = 0;
        int[][] ways = {{0, 1}, {1, 0}, {-1, 0}, {0, -1}};
        for (int i = 0; i < 60; i++) {
            int[][] open = Arrays.stream(ways).filter(inside(row, column)).toArray(int[][]::new);
            lot = lot * 1103515245 + 12345;
            int[] way = open[(lot >> 16 & 0xFFFF) % open.length];
            row += way[0];
            column += way[1];
        }
        return 6 * row + column;
    }

    private static Predicate<int[]> inside(int row, int column) {
        return way -> row + way[0] >= 0 && row + way[0] < 6 && column + way[1] >= 0 && column + way[1] < 6;
    }

    private static void roam() {
        HedgehogBorder x = Check.with("..;..", "");
        due("no steps", x.roam(5, 0, 0), 0);
        due("no steps, on one cell", x.roam(5, 0, 1), 1);
        // SEED 0 becomes 12345, its upper 16 bits are 0: the first of 1, 2.
        due("one step", x.roam(0, 1, 0), 1);
        // Then it becomes -740551042: 54236, the first of 3, 0.
        due("two steps", x.roam(0, 2, 0), 3);
        due("two steps, on three cells", x.roam(0, 2, 1), 3);
        // SEED -1 becomes -1103502900: 48697, the second of 1, 2.
        due("a seed below 0", x.roam(-1, 1, 0), 2);
        HedgehogBorder y = Check.with("...;#..", "");
        due("one way takes a lot too", y.roam(0, 1, 0), 1);
        // 54236 modulo 3 is 2: the third of 2, 4, 0.
        due("the third of three", y.roam(0, 2, 0), 0);
        due("a cell twice", y.roam(0, 2, 1), 2);
        y.set(1, 0);
        due("in winter", y.roam(0, 1, 0), 1);
        y.set(0, 1);
        due("from a wall", y.roam(0, 2, 0), -1);
        due("from a wall", y.roam(0, 2, 1), 0);
        HedgehogBorder w = Check.with("......;......;......;......;......;......", "");
        due("sixty steps", w.roam(3, 60, 0), sixty(3));
        due("sixty steps of another seed", w.roam(Integer.MIN_VALUE, 60, 0), sixty(Integer.MIN_VALUE));
        HedgehogBorder z = Check.with(".#;#.", "");
        due("walled in", z.roam(3, 60, 0), 0);
        due("walled in", z.roam(3, 60, 1), 1);
    }
}
