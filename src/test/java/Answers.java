import java.util.function.IntSupplier;

/** Counts the answers that are not as due and prints each of them. */
final class Answers {
    static final int INVALID = -1000001;
    static final int STATE = -1000002;
    static final int FULL = -1000003;
    static final int NONE = -1000009;

    private final String test;
    private String part = "";
    private int asked = 0;
    private int wrong = 0;

    Answers(String test) {
        this.test = test;
    }

    void part(String name) {
        part = name;
    }

    int wrongOnes() {
        return wrong;
    }

    void due(String what, long got, long want) {
        asked++;
        if (got != want) {
            wrong++;
            System.out.println(test + ", " + part + ": " + what + " answered " + got + ", due is " + want);
        }
    }

    void holds(String what, boolean fact) {
        due(what, fact ? 1 : 0, 1);
    }

    /**
     * A call that answers an error changes nothing. Few looks, so that an object stands many of these
     * within its 512 calls; BoundsTest and TermsTest look at everything, by Twins.
     */
    void refused(BoreholeColumns x, String what, IntSupplier call, int want) {
        String before = Sight.inShort(x);
        due(what, call.getAsInt(), want);
        asked++;
        if (!before.equals(Sight.inShort(x))) {
            wrong++;
            System.out.println(test + ", " + part + ": " + what + " changed something");
        }
    }

    void end() {
        System.out.println(test + ": " + (wrong == 0 ? "all " + asked + " answers are as due" : wrong + " answers are not as due"));
        if (wrong != 0) {
            System.exit(1);
        }
    }
}
