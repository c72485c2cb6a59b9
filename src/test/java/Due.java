/** Counts the answers that are not the ones that are due, and prints each of them. */
final class Due {
    static final String ILLEGAL_ARGUMENT = "IllegalArgumentException";
    static final String ILLEGAL_STATE = "IllegalStateException";
    static final String OUT_OF_BOUNDS = "IndexOutOfBoundsException";

    private static String sentence = "";
    private static int sentences = 0;
    private static int asked = 0;
    private static int wrong = 0;

    interface Call {
        void make();
    }

    interface CallOf {
        void make(ShadowSociety society);
    }

    /** Sets up a society, and sets up just the same one when it is asked again. */
    interface Scene {
        ShadowSociety set();
    }

    private Due() {
    }

    /** The sentence of the document that the next answers are about; it is printed with each wrong one. */
    static void sentence(String words) {
        sentence = words;
        sentences++;
    }

    static void answer(String call, long got, long want) {
        check(call, got == want, Long.toString(got), Long.toString(want));
    }

    static void answer(String call, boolean got, boolean want) {
        check(call, got == want, Boolean.toString(got), Boolean.toString(want));
    }

    static void answer(String call, double got, double want) {
        check(call, got == want, Double.toString(got), Double.toString(want));
    }

    static void answer(String call, String got, String want) {
        check(call, got.equals(want), got, want);
    }

    /** The call throws just this exception, and the society's digest is the same before and after. */
    static void refusal(ShadowSociety society, String call, String exception, Call made) {
        long before = society.digest();
        answer(call + " throws", thrownBy(made), exception);
        answer("digest() behind the refused " + call, society.digest(), before);
    }

    /** As above, beside a society without the refused call: nothing differs then, nor a day later. */
    static void refusal(Scene scene, String call, String exception, CallOf made) {
        ShadowSociety refused = scene.set();
        ShadowSociety untouched = scene.set();
        answer(call + " throws", thrownBy(() -> made.make(refused)), exception);
        answer("what there is behind the refused " + call, Picture.of(refused), Picture.of(untouched));
        refused.pass(24);
        untouched.pass(24);
        answer("what there is a day behind the refused " + call, Picture.of(refused), Picture.of(untouched));
    }

    static String thrownBy(Call made) {
        try {
            made.make();
            return "nothing";
        } catch (RuntimeException thrown) {
            return nameOf(thrown);
        }
    }

    /** The exception's name, and where it comes from if the class does not throw it itself. */
    static String nameOf(RuntimeException thrown) {
        String name = thrown.getClass().getSimpleName();
        StackTraceElement[] trace = thrown.getStackTrace();
        boolean own = trace.length > 0 && trace[0].getClassName().startsWith("ShadowSociety");
        return own ? name : name + " of another class";
    }

    private static void check(String call, boolean right, String got, String want) {
        asked++;
        if (!right) {
            wrong++;
            System.out.println((sentence.isEmpty() ? "" : "\"" + sentence + "\": ") + call + " answered " + got
                + ", due is " + want);
        }
    }

    static void end() {
        String all = asked + " answers" + (sentences == 0 ? "" : " to " + sentences + " sentences");
        System.out.println(wrong == 0 ? all + " are as due" : wrong + " of " + all + " are not as due");
        if (wrong != 0) {
            System.exit(1);
        }
    }
}
