/** Counts the answers of one test that are not as due, and ends it. */
final class Check {
    private final String name;
    private int asked = 0;
    private int wrong = 0;

    Check(String name) {
        this.name = name;
    }

    void due(String call, long got, long want) {
        asked++;
        if (got != want) {
            wrong++;
            System.out.println(name + ": " + call + " answered " + got + ", due is " + want);
        }
    }

    void holds(String what, boolean is) {
        asked++;
        if (!is) {
            wrong++;
            System.out.println(name + ": not so: " + what);
        }
    }

    boolean anyWrong() {
        return wrong > 0;
    }

    void end() {
        System.out.println(name + ": " + asked + " answers, " + wrong + " not as due");
        if (wrong > 0 || asked == 0) {
            System.exit(1);
        }
    }

    static void type(RumourSource x, String text) {
        for (int i = 0; i < text.length(); i++) {
            x.type(text.charAt(i));
        }
    }

    /** A new object that has loaded a text. */
    static RumourSource loaded(String text) {
        RumourSource x = new RumourSource();
        type(x, text);
        if (x.load() < 0) {
            throw new IllegalStateException("the test's own text has a fault: " + text);
        }
        x.clearText();
        return x;
    }
}
