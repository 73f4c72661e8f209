import java.util.function.ToIntFunction;

/** What is behind a refused call, and behind the calls that only ask: all that was there ahead of it. */
final class EdgesOfRefusals extends Checks {
    private static final long FIRST_OF_EIGHT_DIGITS = 10000000L;
    private static final long FIRST_OF_FIFTEEN_DIGITS = 100000000000000L;

    private interface Make {
        FrameCard card();
    }

    private interface Use {
        void on(FrameCard card);
    }

    /** Frames that are kept, wait, were dropped and lost; dirty blocks; broken promises; a save slot; fourteen states. */
    private static FrameCard rich() {
        FrameCard x = card("C121903s000000n1s000001s000003n1");
        x.save(0);
        for (int k = 0; k < 5; k++) {
            x.shoot(k);
            x.set(2, 2 + k % 3);
            x.ticks(1);
        }
        x.drop(1);
        x.shoot(999999);
        x.shoot(0);
        x.shoot(12);
        x.shoot(13);
        x.shoot(14);
        return x;
    }

    private static FrameCard richWithOtherText(String text) {
        FrameCard x = rich();
        x.clearText();
        type(x, text);
        return x;
    }

    private static FrameCard richWithFullText() {
        return richWithOtherText("C242204s000000" + "n1".repeat(53));
    }

    private static FrameCard richBehindRestore() {
        FrameCard x = rich();
        x.save(1);
        x.restore(1);
        return x;
    }

    private static void changesNothing(Make make, Use use, String what) {
        FrameCard used = make.card();
        use.on(used);
        Look.compare(make.card(), used, what);
    }

    private static void index(Make make, String what, ToIntFunction<FrameCard> call) {
        changesNothing(make, x -> index(() -> call.applyAsInt(x)), what);
    }

    private static void argument(Make make, String what, ToIntFunction<FrameCard> call) {
        changesNothing(make, x -> argument(() -> call.applyAsInt(x)), what);
    }

    private static void state(Make make, String what, ToIntFunction<FrameCard> call) {
        changesNothing(make, x -> state(() -> call.applyAsInt(x)), what);
    }

    @Says("A call that throws an exception changes nothing.")
    static void theCardOfTheseTestsHasSomethingOfAll() {
        FrameCard x = rich();
        int[] least = {7, 13, 1, 4, 1, 1, 0, 0, 1, 2, 1, 12, 1, 0};
        for (int what = 0; what < 14; what++) {
            int got = x.about(what);
            tell(got >= least[what], "about(" + what + ") answered " + got + ", at least " + least[what]);
        }
        due(13, x.undo());
    }

    @Says("A call that throws an exception changes nothing.")
    static void refusedTextCalls() {
        argument(EdgesOfRefusals::rich, "append(-1)", x -> x.append(-1));
        argument(EdgesOfRefusals::rich, "append(256)", x -> x.append(256));
        argument(EdgesOfRefusals::richWithFullText, "append(256)", x -> x.append(256));
        state(EdgesOfRefusals::richWithFullText, "append('n')", x -> x.append('n'));
        state(() -> richWithOtherText("C242204s12345"), "load()", FrameCard::load);
        state(() -> richWithOtherText("C242204n1n0"), "load()", FrameCard::load);
        state(() -> richWithOtherText("C242204d47d48"), "load()", FrameCard::load);
        state(() -> richWithOtherText(""), "load()", FrameCard::load);
    }

    @Says("A call that throws an exception changes nothing.")
    static void refusedLooks() {
        argument(EdgesOfRefusals::rich, "about(-1)", x -> x.about(-1));
        argument(EdgesOfRefusals::rich, "about(14)", x -> x.about(14));
        index(EdgesOfRefusals::rich, "frame(-1, 0)", x -> x.frame(-1, 0));
        index(EdgesOfRefusals::rich, "frame(kept, 0)", x -> x.frame(x.about(2), 0));
        argument(EdgesOfRefusals::rich, "frame(0, 7)", x -> x.frame(0, 7));
        index(EdgesOfRefusals::rich, "waiting(4, 0)", x -> x.waiting(4, 0));
        argument(EdgesOfRefusals::rich, "waiting(0, 4)", x -> x.waiting(0, 4));
        index(EdgesOfRefusals::rich, "block(12)", x -> x.block(12));
        index(EdgesOfRefusals::rich, "broken(10, 0)", x -> x.broken(10, 0));
        argument(EdgesOfRefusals::rich, "broken(0, 3)", x -> x.broken(0, 3));
        argument(EdgesOfRefusals::rich, "setting(3)", x -> x.setting(3));
    }

    @Says("A call that throws an exception changes nothing.")
    static void refusedActions() {
        argument(EdgesOfRefusals::rich, "shoot(-1)", x -> x.shoot(-1));
        argument(EdgesOfRefusals::rich, "shoot(1000000)", x -> x.shoot(1000000));
        argument(EdgesOfRefusals::rich, "ticks(0)", x -> x.ticks(0));
        argument(EdgesOfRefusals::rich, "ticks(51)", x -> x.ticks(51));
        index(EdgesOfRefusals::rich, "drop(-1)", x -> x.drop(-1));
        index(EdgesOfRefusals::rich, "drop(kept)", x -> x.drop(x.about(2)));
        argument(EdgesOfRefusals::rich, "format(7)", x -> x.format(7));
        argument(EdgesOfRefusals::rich, "format(49)", x -> x.format(49));
        int[][] wrong = {{-1, 1}, {3, 1}, {0, -1}, {0, 9}, {1, -1}, {1, 10}, {2, 0}, {2, 21}};
        for (int[] pair : wrong) {
            argument(EdgesOfRefusals::rich, "set(" + pair[0] + ", " + pair[1] + ")", x -> x.set(pair[0], pair[1]));
        }
        state(EdgesOfRefusals::richBehindRestore, "undo()", FrameCard::undo);
    }

    @Says("A call that throws an exception changes nothing.")
    static void refusedQuestions() {
        index(EdgesOfRefusals::rich, "storedIn(-1)", x -> x.storedIn(-1));
        index(EdgesOfRefusals::rich, "storedIn(4)", x -> x.storedIn(4));
        argument(EdgesOfRefusals::rich, "room(-1)", x -> x.room(-1));
        argument(EdgesOfRefusals::rich, "room(55)", x -> x.room(55));
        argument(EdgesOfRefusals::rich, "drops(-1, 1)", x -> x.drops(-1, 1));
        argument(EdgesOfRefusals::rich, "drops(0, 51)", x -> x.drops(0, 51));
        argument(EdgesOfRefusals::rich, "runScript(3, 0)", x -> x.runScript(3, 0L));
        argument(EdgesOfRefusals::rich, "runScript(2, -1)", x -> x.runScript(2, -1L));
        argument(EdgesOfRefusals::rich, "runScript(1, 8 digits)", x -> x.runScript(1, FIRST_OF_EIGHT_DIGITS));
        argument(EdgesOfRefusals::rich, "runScript(2, 15 digits)", x -> x.runScript(2, FIRST_OF_FIFTEEN_DIGITS));
        argument(EdgesOfRefusals::rich, "simulate(0, 0)", x -> x.simulate(0L, 0));
        argument(EdgesOfRefusals::rich, "simulate(0, 100)", x -> x.simulate(0L, 100));
    }

    @Says("A call that throws an exception changes nothing.")
    static void refusedSlots() {
        index(EdgesOfRefusals::rich, "save(-1)", x -> x.save(-1));
        index(EdgesOfRefusals::rich, "save(2)", x -> x.save(2));
        index(EdgesOfRefusals::rich, "restore(-1)", x -> x.restore(-1));
        index(EdgesOfRefusals::rich, "restore(2)", x -> x.restore(2));
        state(EdgesOfRefusals::rich, "restore(1)", x -> x.restore(1));
    }

    @Says("these and all following methods up to the save slots change nothing.")
    static void questionsChangeNothing() {
        changesNothing(EdgesOfRefusals::rich, x -> x.storedIn(3), "storedIn(3)");
        changesNothing(EdgesOfRefusals::rich, FrameCard::least, "least()");
        changesNothing(EdgesOfRefusals::rich, x -> x.room(54), "room(54)");
        changesNothing(EdgesOfRefusals::rich, FrameCard::leastPace, "leastPace()");
        changesNothing(EdgesOfRefusals::rich, x -> x.drops(999999, 50), "drops(999999, 50)");
        for (long command : new long[] {1123456L, 2000050L, 3000000L, 4000008L, 4100009L, 4200020L, 9000000L}) {
            changesNothing(EdgesOfRefusals::rich, x -> x.runScript(1, command), "runScript(1, " + command + ")");
        }
        changesNothing(EdgesOfRefusals::rich, x -> x.runScript(2, 20000503000000L), "runScript(2, 20000503000000)");
        changesNothing(EdgesOfRefusals::rich, x -> x.simulate(1L, 99), "simulate(1, 99)");
    }

    @Says("these and all following methods up to the save slots change nothing.")
    static void oneQuestionLeavesNothingToTheNext() {
        FrameCard x = rich();
        int[] first = questions(x);
        int[] again = questions(x);
        for (int k = 0; k < first.length; k++) {
            due(first[k], again[k]);
            due(first[k], questions(rich())[k]);
        }
    }

    private static int[] questions(FrameCard x) {
        return new int[] {x.storedIn(0), x.least(), x.room(9), x.leastPace(), x.drops(999999, 9),
            x.runScript(2, 20000505000003L), x.simulate(7L, 20), x.storedIn(3), x.drops(0, 1)};
    }

    @Says("If several exceptions apply to a call, the one that its description names first is thrown.")
    static void theExceptionNamedFirst() {
        FrameCard x = richWithFullText();
        argument(() -> x.append(-1));
        argument(() -> x.append(256));
        index(() -> x.frame(-1, -1));
        index(() -> x.frame(x.about(2), 7));
        index(() -> x.waiting(-1, -1));
        index(() -> x.waiting(4, 4));
        index(() -> x.broken(-1, -1));
        index(() -> x.broken(10, 3));
        FrameCard empty = new FrameCard();
        index(() -> empty.frame(0, 7));
        index(() -> empty.waiting(0, 4));
        index(() -> empty.broken(0, 3));
        index(() -> empty.restore(-1));
        index(() -> empty.restore(2));
    }

    @Says({"IndexOutOfBoundsException means that a kept or waiting frame, a block or a broken promise does not exist, "
            + "or that a save slot is not 0 or 1.", "IllegalArgumentException means that another argument is out of its range."})
    static void theGreatestAndTheLeastNumbers() {
        for (int odd : new int[] {Integer.MIN_VALUE, Integer.MIN_VALUE + 1, -1000, 1000001, Integer.MAX_VALUE - 1,
                Integer.MAX_VALUE}) {
            FrameCard x = rich();
            index(() -> x.frame(odd, 0));
            index(() -> x.waiting(odd, 0));
            index(() -> x.block(odd));
            index(() -> x.broken(odd, 0));
            index(() -> x.drop(odd));
            index(() -> x.storedIn(odd));
            index(() -> x.save(odd));
            index(() -> x.restore(odd));
            argument(() -> x.append(odd));
            argument(() -> x.about(odd));
            argument(() -> x.frame(0, odd));
            argument(() -> x.waiting(0, odd));
            argument(() -> x.broken(0, odd));
            argument(() -> x.setting(odd));
            argument(() -> x.shoot(odd));
            argument(() -> x.ticks(odd));
            argument(() -> x.format(odd));
            argument(() -> x.set(odd, 1));
            argument(() -> x.set(0, odd));
            argument(() -> x.room(odd));
            argument(() -> x.drops(odd, 1));
            argument(() -> x.drops(0, odd));
            argument(() -> x.runScript(odd, 5000000L));
            argument(() -> x.simulate(0L, odd));
        }
    }
}
