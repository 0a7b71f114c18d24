/** Objects in named states, and all that calls can tell of them; an object here never sees more than 512 calls. */
final class States {
    static final String[] NAMES = {"new", "well", "full", "ill"};
    /** The latest FINDING in every state: one that is told by sheet() alone. */
    static final int SIZE = 5;
    static final String WIDEST = "......;......;......;......;......;......";
    static final String EIGHT = "005;075;140;219;288;352;309;051";

    private States() {
    }

    static HedgehogBorder make(String name) {
        HedgehogBorder x = switch (name) {
            case "well" -> well();
            case "full" -> full();
            case "ill" -> ill();
            default -> new HedgehogBorder();
        };
        x.sheet(0, 0, -1);
        return x;
    }

    static int cells(String name) {
        return name.equals("well") ? 20 : name.equals("full") ? 36 : 0;
    }

    static int columns(String name) {
        return name.equals("well") ? 5 : name.equals("full") ? 6 : 0;
    }

    static int houses(String name) {
        return name.equals("well") ? 5 : name.equals("full") ? 8 : 0;
    }

    /** Some of everything, nothing at its bound. */
    private static HedgehogBorder well() {
        HedgehogBorder x = Check.with("..l.w;.#l..;l..#.;.w.l.", "025;103;187;121;394");
        x.set(0, 2);
        x.set(1, 7);
        x.bowl(0, 10);
        x.bowl(1, 16);
        x.bowl(3, 5);
        x.dog(0, 2);
        x.dog(5, 12);
        x.seen(0, 1, 1);
        x.seen(2, 0, 0);
        for (int form = 0; form < 3; form++) {
            x.sheet(form, form, 3 + form);
            x.lay(form, form, 1, -7);
            x.lay(form, form, 2 + form, 9);
        }
        return x;
    }

    /** All that can be full is full. */
    private static HedgehogBorder full() {
        HedgehogBorder x = Check.with(WIDEST, EIGHT);
        x.set(0, 5);
        for (int i = 0; i < 8; i++) {
            x.bowl(i, 24 - 6 * (i % 4));
            x.dog(9 - i, 32 - i);
            x.seen(i, i, i % 3);
        }
        x.sheet(0, 2, 60);
        x.lay(0, 2, 0, 3);
        x.lay(0, 2, 59, Integer.MAX_VALUE);
        x.sheet(1, 1, 2);
        x.sheet(2, 0, 1);
        x.sheet(3, 2, 3);
        x.lay(3, 2, 2, 8);
        return x;
    }

    /** Both texts have a FAULT. */
    private static HedgehogBorder ill() {
        HedgehogBorder x = Check.with("..;.x", "01x");
        x.set(0, 1);
        x.set(1, 0);
        x.bowl(9, 35);
        x.bowl(0, 0);
        x.dog(0, 1);
        x.seen(9, 7, 2);
        x.sheet(0, 1, 0);
        x.sheet(3, 2, 1);
        return x;
    }

    /** All but count() 8, without a change to anything else. */
    static String told(HedgehogBorder x) {
        StringBuilder all = new StringBuilder();
        for (int what = 0; what < 8; what++) {
            all.append(x.count(what)).append(' ');
        }
        all.append(x.digest());
        for (int s = 0; s < 4; s++) {
            all.append(" sheet ").append(s).append(':').append(items(x, s));
        }
        int start = x.set(0, 0);
        int frost = x.set(1, 0);
        x.set(0, start);
        x.set(1, frost);
        return all.append(" start ").append(start).append(" frost ").append(frost).toString();
    }

    private static String items(HedgehogBorder x, int s) {
        for (int form = 0; form < 3; form++) {
            StringBuilder row = new StringBuilder().append(" form ").append(form).append(':');
            for (int i = 0; i <= 60; i++) {
                int item = x.get(s, form, i);
                if (item != Integer.MIN_VALUE) {
                    row.append(' ').append(item);
                } else if (x.count(8) == 1) {
                    return " lost";
                } else if (x.count(8) == 2) {
                    return row.toString();
                } else {
                    break;
                }
            }
        }
        return " no form";
    }

    /** What is left only to calls that undo it: each byte, each BOWL and DOG by what it does on the widest land. */
    static String takenApart(HedgehogBorder x) {
        StringBuilder all = new StringBuilder(told(x));
        for (int text = 0; text < 2; text++) {
            for (int left = x.count(2 + text); left > 0; left = x.undo(text)) {
                all.append(' ').append(x.fault(text));
            }
        }
        Check.typed(x, 0, WIDEST);
        Check.typed(x, 1, EIGHT);
        all.append(" seen ").append(x.never()).append(' ').append(x.began()).append(' ').append(x.forget());
        x.set(0, 0);
        x.set(1, 10);
        for (int what = 0; what < 2; what++) {
            for (int left = x.count(4 + what); left > 0; left = x.back(what)) {
                all.append(' ').append(x.digest());
            }
        }
        return all.append(' ').append(x.digest()).toString();
    }
}
