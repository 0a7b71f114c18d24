/** Counts answers that are not the ones that are due, and makes objects with texts typed. */
final class Check {
    static final long LONG_BAD = Long.MIN_VALUE + 2;
    private final String title;
    private int asked = 0;
    private int wrong = 0;

    Check(String title) {
        this.title = title;
    }

    void due(String what, long got, long want) {
        asked++;
        if (got != want) {
            wrong++;
            System.out.println(title + ": " + what + " answered " + got + ", due is " + want);
        }
    }

    void end() {
        System.out.println(title + ": " + asked + " answers, " + wrong + " not as due");
        if (wrong != 0) {
            System.exit(1);
        }
    }

    static HedgehogBorder with(String land, String houses) {
        HedgehogBorder x = new HedgehogBorder();
        typed(x, 0, land);
        typed(x, 1, houses);
        return x;
    }

    static void typed(HedgehogBorder x, int text, String s) {
        for (int i = 0; i < s.length(); i++) {
            x.type(text, s.charAt(i));
        }
    }
}
