/** Counts the answers of one test that are not as due, and ends it. */
final class Check {
    private static int notLoaded = 0;

    private final String name;
    private String about = "";
    private int askedBefore = 0;
    private int asked = 0;
    private int wrong = 0;

    Check(String name) {
        this.name = name;
    }

    void due(String call, long got, long want) {
        asked++;
        if (got != want) {
            wrong++;
            System.out.println(name + about + ": " + call + " answered " + got + ", due is " + want);
        }
    }

    void holds(String what, boolean is) {
        asked++;
        if (!is) {
            wrong++;
            System.out.println(name + about + ": not so: " + what);
        }
    }

    /** What is asked from here on is the test of one sentence; that of the one before has ended. */
    void begin(String sentence) {
        if (!about.isEmpty()) {
            holds("something is asked", asked > askedBefore);
        }
        about = sentence.isEmpty() ? "" : " [" + sentence + "]";
        askedBefore = asked;
    }

    boolean anyWrong() {
        return wrong > 0;
    }

    void end() {
        begin("");
        System.out.println(name + ": " + asked + " answers, " + wrong + " not as due");
        if (wrong > 0 || asked == 0 || notLoaded > 0) {
            System.exit(1);
        }
    }

    /** Values that lie just beyond a range, and the ones that lie farthest. */
    static int[] beyond(int low, int high) {
        return new int[] {low - 1, high + 1, Integer.MIN_VALUE, Integer.MAX_VALUE};
    }

    static void type(RumourSource x, String text) {
        for (int i = 0; i < text.length(); i++) {
            x.type(text.charAt(i));
        }
    }

    /** A new object with a text that is typed, and not loaded. */
    static RumourSource typed(String text) {
        RumourSource x = new RumourSource();
        type(x, text);
        return x;
    }

    /** A new object that has loaded a text; if it can't, that is told, and the test goes on. */
    static RumourSource loaded(String text) {
        RumourSource x = typed(text);
        int answer = x.load();
        if (answer < 0) {
            notLoaded++;
            System.out.println("load() of the test's own text '" + text + "' answered " + answer);
        }
        x.clearText();
        return x;
    }

    /** Adds as many of twelve edges, one after the other: trusts 0, 1, 2 .., delays 1, 2, 3 .. */
    static RumourSource withEdges(int count) {
        RumourSource x = new RumourSource();
        for (int e = 0; e < count; e++) {
            x.addEdge(from(e), to(e), e % 11, e % 5 + 1);
        }
        return x;
    }

    /** Edges 0 to 7 go around, from each node to the next one; edges 8 to 11 leave one out. */
    static int from(int edge) {
        return edge % 8;
    }

    static int to(int edge) {
        return (edge + 1 + edge / 8) % 8;
    }
}
