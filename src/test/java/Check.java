import java.util.function.DoubleSupplier;

/** Counts the answers that are not as due, and tells each of them. */
final class Check {
    interface Call {
        long answer();
    }

    private final String title;
    private String sentence = "";
    private int asked = 0;
    private int wrong = 0;

    Check(String title) {
        this.title = title;
    }

    /** The sentence of the document that the following answers are due by. */
    void about(String words) {
        sentence = " [" + words + "]";
    }

    static String answerOf(Call call) {
        try {
            return Long.toString(call.answer());
        } catch (RuntimeException e) {
            return "throws." + e.getClass().getSimpleName();
        }
    }

    void same(String what, String got, String want) {
        asked++;
        if (!got.equals(want)) {
            wrong++;
            System.out.println(title + sentence + ": " + what + " answered " + got + ", due is " + want);
        }
    }

    void due(String what, long want, Call call) {
        same(what, answerOf(call), Long.toString(want));
    }

    void dueDouble(String what, double want, DoubleSupplier call) {
        same(what, Double.toString(call.getAsDouble()), Double.toString(want));
    }

    /** The call throws that exception and changes nothing. */
    void refused(String what, Tablature x, Class<? extends RuntimeException> exception, Call call) {
        long before = x.digest();
        same(what, answerOf(call), "throws." + exception.getSimpleName());
        same(what + ", then digest()", Long.toString(x.digest()), Long.toString(before));
    }

    void end() {
        System.out.println(title + ": " + (asked - wrong) + " of " + asked + " as due");
        if (wrong != 0 || asked == 0) {
            System.exit(1);
        }
    }
}
