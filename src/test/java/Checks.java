/** What the tests share: counting right and wrong answers, and making cards from texts. */
class Checks {
    interface Call {
        int answer();
    }

    private static int passed = 0;
    private static int failed = 0;

    static void tell(boolean right, String what) {
        if (right) {
            passed++;
            return;
        }
        failed++;
        System.out.println(place() + ": " + what);
    }

    /** The line of the test that asked, which stands above the lines of this class. */
    private static String place() {
        for (StackTraceElement e : new Throwable().getStackTrace()) {
            if (!e.getClassName().equals(Checks.class.getName())) {
                return e.getFileName() + ", line " + e.getLineNumber() + " (" + e.getMethodName() + ")";
            }
        }
        return "?";
    }

    static int checked() {
        return passed + failed;
    }

    static void due(int want, int got) {
        tell(want == got, "answered " + got + ", due is " + want);
    }

    private static void throwsOut(Class<?> want, Call call) {
        Class<?> got = null;
        try {
            call.answer();
        } catch (RuntimeException e) {
            got = e.getClass();
        }
        tell(want.equals(got), "threw " + got + ", due is " + want);
    }

    static void index(Call call) {
        throwsOut(IndexOutOfBoundsException.class, call);
    }

    static void argument(Call call) {
        throwsOut(IllegalArgumentException.class, call);
    }

    static void state(Call call) {
        throwsOut(IllegalStateException.class, call);
    }

    /** Answers of about(0) to about(13). */
    static void aboutIs(FrameCard x, int... want) {
        for (int what = 0; what < want.length; what++) {
            int got = x.about(what);
            tell(got == want[what], "about(" + what + ") answered " + got + ", due is " + want[what]);
        }
    }

    /** One of the numbers of each kept frame, and that no further frame is kept. */
    static void keptAre(FrameCard x, int what, int... want) {
        due(want.length, x.about(2));
        for (int i = 0; i < want.length && i < x.about(2); i++) {
            int got = x.frame(i, what);
            tell(got == want[i], "frame(" + i + ", " + what + ") answered " + got + ", due is " + want[i]);
        }
        index(() -> x.frame(want.length, what));
    }

    /** What the blocks from 0 on hold, and that there is no further block. */
    static void blocksAre(FrameCard x, int... want) {
        for (int b = 0; b < want.length; b++) {
            int got = x.block(b);
            tell(got == want[b], "block(" + b + ") answered " + got + ", due is " + want[b]);
        }
        index(() -> x.block(want.length));
    }

    static void errorIs(int want, String text) {
        int got = text(text).errorPosition();
        tell(got == want, "errorPosition of " + text + " answered " + got + ", due is " + want);
    }

    static FrameCard text(String text) {
        FrameCard x = new FrameCard();
        type(x, text);
        return x;
    }

    static void type(FrameCard x, String text) {
        for (int i = 0; i < text.length(); i++) {
            x.append(text.charAt(i));
        }
    }

    static FrameCard card(String text) {
        FrameCard x = text(text);
        x.load();
        return x;
    }

    /** Closes a test: tells what came out, and ends with exit code 1 if something was not as due. */
    static void end(String test) {
        System.out.println(test + ": " + passed + " answers as due, " + failed + " not");
        System.exit(failed == 0 && passed > 0 ? 0 : 1);
    }
}
