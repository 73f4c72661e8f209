/** All that can be seen of a card, as a text, so that two cards can be held against one another. */
final class Look {
    private static final int MOST_ROWS = 48;
    private static final int[] SOME_NUMBERS = {0, 1, 2, 3, 5, 7, 8, 10};

    private final FrameCard card;
    private final StringBuilder seen = new StringBuilder();

    private Look(FrameCard card) {
        this.card = card;
    }

    /** The cards are used up by this: their states are taken back, replaced and loaded. */
    static void compare(FrameCard want, FrameCard got, String after) {
        String due = new Look(want).through();
        String found = new Look(got).through();
        Checks.tell(due.equals(found), "behind " + after + " there is\n" + found + "\ndue is\n" + due);
    }

    private String through() {
        all();
        write("error", card::errorPosition);
        for (int k = 0; k < 15; k++) {
            write("undo", card::undo);
            some();
        }
        for (int slot = 0; slot < 2; slot++) {
            int from = slot;
            write("restore", () -> card.restore(from));
            some();
        }
        write("load", card::load);
        some();
        write("clearText", card::clearText);
        return seen.toString();
    }

    private boolean write(String name, Checks.Call call) {
        try {
            seen.append(name).append(' ').append(call.answer()).append('\n');
            return true;
        } catch (IllegalStateException | IndexOutOfBoundsException e) {
            seen.append(name).append(" is refused\n");
            return false;
        }
    }

    private void some() {
        for (int what : SOME_NUMBERS) {
            write("about " + what, () -> card.about(what));
        }
    }

    private void all() {
        for (int what = 0; what < 14; what++) {
            int number = what;
            write("about " + what, () -> card.about(number));
        }
        for (int what = 0; what < 3; what++) {
            int number = what;
            write("setting " + what, () -> card.setting(number));
        }
        rows("frame", 7, card::frame);
        rows("waiting", 4, card::waiting);
        rows("broken", 3, card::broken);
        rows("block", 1, (b, what) -> card.block(b));
    }

    private interface Row {
        int answer(int i, int what);
    }

    private void rows(String name, int columns, Row row) {
        boolean more = true;
        for (int i = 0; i <= MOST_ROWS && more; i++) {
            for (int what = 0; what < columns && more; what++) {
                int at = i;
                int number = what;
                more = write(name + " " + i + " " + what, () -> row.answer(at, number));
            }
        }
    }
}
