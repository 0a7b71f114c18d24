import java.util.Arrays;

/** A question leaves nothing to the next: behind any other one it is answered as by an object that was never asked. */
public final class QuestionsTest {
    private static final Check CHECK = new Check("QuestionsTest");
    private static final String[] QUESTIONS = {"at 5 3", "goes 9", "line 9 1", "realm 9 3", "lies 4 0", "changes 0",
        "taxes 9 1", "first 0", "layOut 3 0 0 0", "layOut 3 0 1 -1", "layOut 9 0 2 1", "rake 3 0 0", "rake 9 0 1",
        "rake 0 0 2", "live 0 0", "live 1 1", "never", "began", "ask 0", "ask 9", "cat 5 4 0 0 0", "cat 0 9 0 2 0",
        "cat 16 9 0 1 1", "roam 7 20 0", "digest"};

    private QuestionsTest() {
    }

    public static void main(String[] args) throws ReflectiveOperationException {
        for (int kind = 0; kind < 5; kind++) {
            for (String second : QUESTIONS) {
                long want = answer(make(kind), second);
                for (String first : QUESTIONS) {
                    HedgehogBorder x = make(kind);
                    answer(x, first);
                    CHECK.due(kind + ": " + first + ", then " + second, answer(x, second), want);
                    CHECK.due(kind + ": " + second + " again", answer(x, second), want);
                }
            }
        }
        changesAreSeenAtOnce();
        CHECK.end();
    }

    /** What was seen comes out so by START, FROST and BOWLS as they are, and by no others. */
    private static HedgehogBorder make(int kind) {
        if (kind == 3) {
            return States.make("well");
        }
        if (kind == 4) {
            return asked();
        }
        HedgehogBorder x = Check.with(kind == 2 ? "...;.l.;...;..." : "..;..;..;..", "051;011;071;391");
        x.set(0, 1 + kind % 2);
        x.set(1, 6 + kind);
        x.bowl(0, 2);
        x.bowl(5, 4);
        x.bowl(5, 6);
        x.dog(3, 3);
        x.seen(0, 0, x.lies(0, 0));
        x.seen(9, 1, x.lies(9, 1));
        return x;
    }

    /** By its BOWL no START is parted from another; without it HOUSE 1 would be the one to ask. */
    private static HedgehogBorder asked() {
        HedgehogBorder x = Check.with("..;..;..", "391;011");
        x.bowl(0, 2);
        return x;
    }

    private static long answer(HedgehogBorder x, String question) throws ReflectiveOperationException {
        String[] words = question.split(" ");
        int[] arguments = Arrays.stream(words).skip(1).mapToInt(Integer::parseInt).toArray();
        return Calls.answer(x, words[0], arguments);
    }

    private static void asNew(String what, HedgehogBorder x, HedgehogBorder fresh) throws ReflectiveOperationException {
        for (String question : QUESTIONS) {
            CHECK.due(what + ": " + question, answer(x, question), answer(fresh, question));
        }
    }

    /** All that a walk hangs on is changed behind a question, and the next one knows it. */
    private static void changesAreSeenAtOnce() throws ReflectiveOperationException {
        String[] acts = {"set 0 0", "set 0 3", "set 1 1", "set 1 10", "bowl 0 0", "bowl 9 2", "dog 0 4", "dog 9 3",
            "back 0", "back 1", "undo 0", "wipe 0", "type 0 59", "undo 1", "wipe 1", "type 1 120", "forget",
            "seen 0 0 0"};
        for (int kind = 0; kind < 3; kind++) {
            for (String act : acts) {
                HedgehogBorder x = make(kind);
                x.digest();
                answer(x, act);
                HedgehogBorder fresh = make(kind);
                answer(fresh, act);
                asNew(kind + ": behind " + act, x, fresh);
            }
        }
    }
}
