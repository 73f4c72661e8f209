/**
 * A camera card that promises frames: pictures come and wait, are stored in blocks, and are
 * dropped because they changed least when blocks run out; each round keeps its promise or breaks it.
 */
public final class FrameCard {
    public static final int NONE = -1;

    private static final int DIRTY = NONE - 1;
    private static final int MIN_BLOCKS = 8;
    private static final int MAX_BLOCKS = 48;
    private static final int BLOCKS_AT_FIRST = 24;
    private static final int MAX_WAITING = 4;
    private static final int MAX_PICTURE = 999999;
    private static final int PICTURE_DIGITS = 6;
    private static final int MAX_CHANGE = 54;
    private static final int CHANGE_A_BLOCK = 9;
    private static final int SIZE_OF_FIRST = 7;
    private static final int MAX_TICKS = 50;

    private static final int PACE = 0;
    private static final int PROMISE = 1;
    private static final int ROUND = 2;
    private static final int SETTINGS = 3;
    private static final int[] SETTING_AT_FIRST = {2, 2, 4};
    private static final int[] SETTING_LOWEST = {0, 0, 1};
    private static final int[] SETTING_HIGHEST = {8, 9, 20};

    private static final int NUMBER = 0;
    private static final int PICTURE = 1;
    private static final int SIZE = 2;
    private static final int CAME = 3;
    private static final int CHANGE = 4;
    private static final int DELAY = 5;
    private static final int LOWEST_BLOCK = 6;
    private static final int COLUMNS = 7;

    private static final int BROKEN_TOLD = 10;
    private static final int BROKEN_COLUMNS = 3;
    private static final int TOO_FEW_CAME = 1;
    private static final int ONE_WAS_LOST = 2;
    private static final int ONE_WAITS = 3;
    private static final int NO_OTHER_REASON = 4;

    private static final int MAX_TEXT = 120;
    private static final int MAX_SIGN = 255;
    private static final int HEAD_LENGTH = 7;
    private static final int MAX_REMEMBERED = 14;
    private static final int MAX_STORED_IN = 99;
    private static final int LEAST_PACE_TICKS = 5;
    private static final int MAX_COMMANDS = 2;
    private static final int GROUP = 10000000;
    private static final int AFTER_FIRST_DIGIT = 1000000;
    private static final int AFTER_SECOND_DIGIT = 100000;
    private static final int MAX_TWO_DIGITS = 99;
    private static final int MAX_FOUR_DIGITS = 9999;
    private static final int MAX_TURNS = 99;
    private static final int PICTURE_OF_SIMULATION = 123456;

    private final Text text;
    private final State now;
    private final State trial;
    private final History history;
    private final Slot slot0;
    private final Slot slot1;

    public FrameCard() {
        text = new Text();
        now = new State();
        trial = new State();
        history = new History();
        slot0 = new Slot();
        slot1 = new Slot();
    }

    // ---- text

    public int append(int c) throws IllegalArgumentException, IllegalStateException {
        if (c < 0 || c > MAX_SIGN) {
            throw new IllegalArgumentException("a character is 0 to 255");
        }
        if (text.length >= MAX_TEXT) {
            throw new IllegalStateException("the text is full");
        }
        text.add(c);
        return text.length;
    }

    public int clearText() {
        int before = text.length;
        text.length = 0;
        return before;
    }

    public int errorPosition() {
        return text.firstError();
    }

    public int load() throws IllegalStateException {
        if (text.firstError() != NONE) {
            throw new IllegalStateException("the text is not a card");
        }
        now.begin(text.number(1, 2));
        now.settings[PACE] = text.number(3, 1);
        now.settings[PROMISE] = text.number(4, 1);
        now.settings[ROUND] = text.number(5, 2);
        history.forget();
        slot0.filled = false;
        slot1.filled = false;
        return doCommands();
    }

    private int doCommands() {
        int leftOut = 0;
        int at = HEAD_LENGTH;
        for (int k = 0; k < MAX_TEXT && at < text.length; k++) {
            int sign = text.signAt(at);
            int digits = digitsBehind(sign);
            int number = text.number(at + 1, digits);
            if (sign == 's') {
                now.receive(number);
            } else if (sign == 'n') {
                now.pass(number);
            } else if (now.kept.has(number)) {
                now.dropKept(number);
            } else {
                leftOut++;
            }
            at = at + 1 + digits;
        }
        return leftOut;
    }

    // ---- what there is

    public int about(int what) throws IllegalArgumentException {
        switch (what) {
            case 0: return now.ticksEnded;
            case 1: return now.came;
            case 2: return now.kept.length;
            case 3: return now.queue.length;
            case 4: return now.dropped;
            case 5: return now.lost;
            case 6: return now.late;
            case 7: return now.blocks.free;
            case 8: return now.blocks.dirty;
            case 9: return now.rounds.ended;
            case 10: return now.rounds.broken;
            case 11: return now.blocks.count;
            case 12: return now.rounds.ticksEnded;
            case 13: return now.rounds.stored;
            default: throw new IllegalArgumentException("what is 0 to 13");
        }
    }

    public int frame(int i, int what) throws IndexOutOfBoundsException, IllegalArgumentException {
        if (!now.kept.has(i)) {
            throw new IndexOutOfBoundsException("no such kept frame");
        }
        switch (what) {
            case 0: return now.kept.get(i, NUMBER);
            case 1: return now.kept.get(i, PICTURE);
            case 2: return now.kept.get(i, SIZE);
            case 3: return now.kept.get(i, CHANGE);
            case 4: return now.kept.get(i, CAME);
            case 5: return now.kept.get(i, DELAY);
            case 6: return now.kept.get(i, LOWEST_BLOCK);
            default: throw new IllegalArgumentException("what is 0 to 6");
        }
    }

    public int waiting(int i, int what) throws IndexOutOfBoundsException, IllegalArgumentException {
        if (!now.queue.has(i)) {
            throw new IndexOutOfBoundsException("no such waiting frame");
        }
        switch (what) {
            case 0: return now.queue.get(i, NUMBER);
            case 1: return now.queue.get(i, PICTURE);
            case 2: return now.queue.get(i, SIZE);
            case 3: return now.queue.get(i, CAME);
            default: throw new IllegalArgumentException("what is 0 to 3");
        }
    }

    public int block(int b) throws IndexOutOfBoundsException {
        if (b < 0 || b >= now.blocks.count) {
            throw new IndexOutOfBoundsException("no such block");
        }
        return now.blocks.get(b);
    }

    public int broken(int k, int what) throws IndexOutOfBoundsException, IllegalArgumentException {
        if (!now.rounds.tells(k)) {
            throw new IndexOutOfBoundsException("no such broken promise");
        }
        if (what < 0 || what >= BROKEN_COLUMNS) {
            throw new IllegalArgumentException("what is 0 to 2");
        }
        return now.rounds.get(k, what);
    }

    public int setting(int what) throws IllegalArgumentException {
        if (what < 0 || what >= SETTINGS) {
            throw new IllegalArgumentException("what is 0 to 2");
        }
        return now.settings[what];
    }

    // ---- actions

    public int shoot(int picture) throws IllegalArgumentException {
        if (!isPicture(picture)) {
            throw new IllegalArgumentException("a picture is 0 to 999999");
        }
        history.remember(now);
        return now.receive(picture);
    }

    public int ticks(int n) throws IllegalArgumentException {
        if (!isTicks(n)) {
            throw new IllegalArgumentException("n is 1 to 50");
        }
        history.remember(now);
        return now.pass(n);
    }

    public int drop(int i) throws IndexOutOfBoundsException {
        if (!now.kept.has(i)) {
            throw new IndexOutOfBoundsException("no such kept frame");
        }
        history.remember(now);
        return now.dropKept(i);
    }

    public int format(int blocks) throws IllegalArgumentException {
        if (blocks < MIN_BLOCKS || blocks > MAX_BLOCKS) {
            throw new IllegalArgumentException("a card has 8 to 48 blocks");
        }
        history.remember(now);
        return now.dropAll(blocks);
    }

    public int set(int what, int v) throws IllegalArgumentException {
        if (!isSetting(what, v)) {
            throw new IllegalArgumentException("no such setting, or not in its range");
        }
        history.remember(now);
        return now.change(what, v);
    }

    public int undo() throws IllegalStateException {
        if (history.length == 0) {
            throw new IllegalStateException("no state is remembered");
        }
        history.takeBack(now);
        return history.length;
    }

    // ---- what would be

    public int storedIn(int i) throws IndexOutOfBoundsException {
        if (!now.queue.has(i)) {
            throw new IndexOutOfBoundsException("no such waiting frame");
        }
        trial.copyFrom(now);
        int stored = 0;
        for (int t = 1; t <= MAX_STORED_IN; t++) {
            stored = stored + trial.pass(1);
            if (stored > i) {
                return t;
            }
        }
        return NONE;
    }

    public int least() {
        return now.kept.get(now.leastChanged(), NUMBER);
    }

    public int room(int change) throws IllegalArgumentException {
        if (change < 0 || change > MAX_CHANGE) {
            throw new IllegalArgumentException("a change is 0 to 54");
        }
        return (now.blocks.free + now.blocks.dirty) / (1 + change / CHANGE_A_BLOCK);
    }

    public int leastPace() {
        for (int pace = SETTING_LOWEST[PACE]; pace <= SETTING_HIGHEST[PACE]; pace++) {
            if (storesAllWith(pace)) {
                return pace;
            }
        }
        return NONE;
    }

    private boolean storesAllWith(int pace) {
        trial.copyFrom(now);
        trial.change(PACE, pace);
        trial.pass(LEAST_PACE_TICKS);
        return trial.queue.length == 0;
    }

    public int drops(int picture, int n) throws IllegalArgumentException {
        if (!isPicture(picture) || !isTicks(n)) {
            throw new IllegalArgumentException("a picture is 0 to 999999, n is 1 to 50");
        }
        trial.copyFrom(now);
        trial.receive(picture);
        trial.pass(n);
        return trial.dropped - now.dropped;
    }

    // ---- scripts, simulations

    public int runScript(int n, long script) throws IllegalArgumentException {
        if (n < 1 || n > MAX_COMMANDS) {
            throw new IllegalArgumentException("n is 1 or 2");
        }
        long first = script / GROUP;
        long last = script % GROUP;
        if (script < 0 || first >= GROUP || (n == 1 && first > 0)) {
            throw new IllegalArgumentException("a script has at most 7 * n digits");
        }
        trial.copyFrom(now);
        if (n == 1) {
            return succeeds((int) last) ? NONE : 0;
        }
        if (!succeeds((int) first)) {
            return 0;
        }
        return succeeds((int) last) ? NONE : 1;
    }

    private boolean succeeds(int group) {
        int command = group / AFTER_FIRST_DIGIT;
        int number = group % AFTER_FIRST_DIGIT;
        if (command == 1) {
            trial.receive(number);
            return true;
        }
        if (command == 2 && isTicks(number)) {
            trial.pass(number);
            return true;
        }
        if (command == 3 && trial.kept.has(number)) {
            trial.dropKept(number);
            return true;
        }
        if (command == 4 && isSetting(number / AFTER_SECOND_DIGIT, number % AFTER_SECOND_DIGIT)) {
            trial.change(number / AFTER_SECOND_DIGIT, number % AFTER_SECOND_DIGIT);
            return true;
        }
        return holds(command, number);
    }

    private boolean holds(int condition, int number) {
        if (number > (condition == 9 ? MAX_FOUR_DIGITS : MAX_TWO_DIGITS)) {
            return false;
        }
        switch (condition) {
            case 5: return trial.kept.length >= number;
            case 6: return trial.dropped <= number;
            case 7: return trial.rounds.broken <= number;
            case 8: return trial.blocks.free >= number;
            case 9: return trial.keeps(number);
            default: return false;
        }
    }

    public int simulate(long seed, int m) throws IllegalArgumentException {
        if (m < 1 || m > MAX_TURNS) {
            throw new IllegalArgumentException("m is 1 to 99");
        }
        trial.copyFrom(now);
        long x = seed;
        int p = PICTURE_OF_SIMULATION;
        for (int turn = 0; turn < m; turn++) {
            x = x * 6364136223846793005L + 1442695040888963407L;
            int r = (int) (x >>> 33);
            if (r % 4 == 0) {
                p = r / 64 % 1000000;
            } else if (r % 4 == 1) {
                p = p / 10 * 10 + r / 64 % 10;
            }
            if (r / 4 % 4 < 3) {
                trial.receive(p);
            }
            trial.pass(1);
        }
        return 10000 * (trial.dropped - now.dropped) + 100 * (trial.lost - now.lost) + trial.kept.length;
    }

    // ---- save slots

    public int save(int slot) throws IndexOutOfBoundsException {
        if (slot < 0 || slot > 1) {
            throw new IndexOutOfBoundsException("a save slot is 0 or 1");
        }
        Slot into = slot == 0 ? slot0 : slot1;
        into.state.copyFrom(now);
        into.filled = true;
        return now.kept.length;
    }

    public int restore(int slot) throws IndexOutOfBoundsException, IllegalStateException {
        if (slot < 0 || slot > 1) {
            throw new IndexOutOfBoundsException("a save slot is 0 or 1");
        }
        Slot from = slot == 0 ? slot0 : slot1;
        if (!from.filled) {
            throw new IllegalStateException("nothing has been saved in it");
        }
        now.copyFrom(from.state);
        history.forget();
        return now.kept.length;
    }

    // ---- what all sections share

    private static boolean isPicture(int picture) {
        return picture >= 0 && picture <= MAX_PICTURE;
    }

    private static boolean isTicks(int n) {
        return n >= 1 && n <= MAX_TICKS;
    }

    private static boolean isSetting(int what, int v) {
        return what >= 0 && what < SETTINGS && v >= SETTING_LOWEST[what] && v <= SETTING_HIGHEST[what];
    }

    private static int difference(int one, int other) {
        int sum = 0;
        int a = one;
        int b = other;
        for (int place = 0; place < PICTURE_DIGITS; place++) {
            int d = a % 10 - b % 10;
            sum = sum + (d < 0 ? -d : d);
            a = a / 10;
            b = b / 10;
        }
        return sum;
    }

    private static int digitsBehind(int sign) {
        switch (sign) {
            case 's': return PICTURE_DIGITS;
            case 'd': return 2;
            default: return 1;
        }
    }

    /** The text buffer, and where it is not a card. */
    private static final class Text {
        private final char[] signs = new char[MAX_TEXT];
        private int length;

        void add(int c) {
            if (length >= 0 && length < MAX_TEXT) {
                signs[length] = (char) c;
                length++;
            }
        }

        int signAt(int i) {
            return i >= 0 && i < length && i < MAX_TEXT ? signs[i] : NONE;
        }

        private int digitAt(int i) {
            int sign = signAt(i);
            return sign >= '0' && sign <= '9' ? sign - '0' : NONE;
        }

        int number(int from, int digits) {
            int value = 0;
            for (int k = 0; k < digits; k++) {
                value = value * 10 + digitAt(from + k);
            }
            return value;
        }

        int firstError() {
            int error = errorInHead();
            int at = HEAD_LENGTH;
            for (int k = 0; k < MAX_TEXT && error == NONE && at < length; k++) {
                error = errorInCommand(at);
                at = at + 1 + digitsBehind(signAt(at));
            }
            return error;
        }

        private int errorInHead() {
            int error = signAt(0) == 'C' ? NONE : 0;
            if (error == NONE) {
                error = errorInNumber(1, 2, MIN_BLOCKS, MAX_BLOCKS);
            }
            if (error == NONE) {
                error = errorInNumber(3, 1, SETTING_LOWEST[PACE], SETTING_HIGHEST[PACE]);
            }
            if (error == NONE) {
                error = errorInNumber(4, 1, SETTING_LOWEST[PROMISE], SETTING_HIGHEST[PROMISE]);
            }
            if (error == NONE) {
                error = errorInNumber(5, 2, SETTING_LOWEST[ROUND], SETTING_HIGHEST[ROUND]);
            }
            return error;
        }

        private int errorInCommand(int at) {
            switch (signAt(at)) {
                case 's': return errorInNumber(at + 1, PICTURE_DIGITS, 0, MAX_PICTURE);
                case 'n': return errorInNumber(at + 1, 1, 1, 9);
                case 'd': return errorInNumber(at + 1, 2, 0, MAX_BLOCKS - 1);
                default: return at;
            }
        }

        /** A text that ends too soon is wrong at its length, which is where its next digit is missing. */
        private int errorInNumber(int from, int digits, int lowest, int highest) {
            int open = 1;
            for (int k = 0; k < digits; k++) {
                open = open * 10;
            }
            int value = 0;
            for (int k = 0; k < digits; k++) {
                int digit = digitAt(from + k);
                open = open / 10;
                value = value + digit * open;
                if (digit == NONE || value > highest || value + open - 1 < lowest) {
                    return from + k;
                }
            }
            return NONE;
        }
    }

    /** A row of frames in the order of their numbers. */
    private static final class Frames {
        private final int[] cells;
        private int length;

        Frames(int[] cells) {
            this.cells = cells;
        }

        boolean has(int i) {
            return i >= 0 && i < length;
        }

        int get(int i, int column) {
            int at = i * COLUMNS + column;
            return i >= 0 && i < length && at >= 0 && at < cells.length ? cells[at] : NONE;
        }

        void put(int i, int column, int value) {
            int at = i * COLUMNS + column;
            if (i >= 0 && i < length && at >= 0 && at < cells.length) {
                cells[at] = value;
            }
        }

        void add(int number, int picture, int size, int came) {
            int last = length;
            length++;
            put(last, NUMBER, number);
            put(last, PICTURE, picture);
            put(last, SIZE, size);
            put(last, CAME, came);
        }

        void remove(int i) {
            int from = (i + 1) * COLUMNS;
            int end = length * COLUMNS;
            if (has(i) && end <= cells.length) {
                System.arraycopy(cells, from, cells, from - COLUMNS, end - from);
                length--;
            }
        }

        void measureChange(int i) {
            if (i == 0) {
                put(i, CHANGE, NONE);
            } else if (has(i)) {
                put(i, CHANGE, difference(get(i - 1, PICTURE), get(i, PICTURE)));
            }
        }

        void copyFrom(Frames other) {
            int end = other.length * COLUMNS;
            if (end >= 0 && end <= cells.length && end <= other.cells.length) {
                System.arraycopy(other.cells, 0, cells, 0, end);
                length = other.length;
            }
        }
    }

    /** The blocks of the card: each holds NONE, DIRTY or the number of the frame that uses it. */
    private static final class Blocks {
        private final int[] holds = new int[MAX_BLOCKS];
        private int count;
        private int free;
        private int dirty;

        void begin(int blocks) {
            for (int b = 0; b < MAX_BLOCKS; b++) {
                holds[b] = NONE;
            }
            count = blocks;
            free = blocks;
            dirty = 0;
        }

        int get(int b) {
            return b >= 0 && b < MAX_BLOCKS ? holds[b] : NONE;
        }

        void clean(int pace) {
            int left = pace;
            for (int b = 0; b < MAX_BLOCKS && left > 0 && dirty > 0; b++) {
                if (holds[b] == DIRTY) {
                    holds[b] = NONE;
                    dirty--;
                    free++;
                    left--;
                }
            }
        }

        /** Answers the lowest of the blocks that the frame gets. */
        int take(int number, int size) {
            int lowest = NONE;
            int left = size;
            for (int b = 0; b < MAX_BLOCKS && b < count && left > 0; b++) {
                if (holds[b] == NONE) {
                    holds[b] = number;
                    free--;
                    left--;
                    lowest = lowest == NONE ? b : lowest;
                }
            }
            return lowest;
        }

        int soil(int number) {
            int soiled = 0;
            for (int b = 0; b < MAX_BLOCKS && b < count; b++) {
                if (holds[b] == number) {
                    holds[b] = DIRTY;
                    soiled++;
                }
            }
            dirty = dirty + soiled;
            return soiled;
        }

        void copyFrom(Blocks other) {
            System.arraycopy(other.holds, 0, holds, 0, MAX_BLOCKS);
            count = other.count;
            free = other.free;
            dirty = other.dirty;
        }
    }

    /** What happened in this round, how many rounds ended, and the promises broken last. */
    private static final class Rounds {
        private final int[] told = new int[BROKEN_TOLD * BROKEN_COLUMNS];
        private int ticksEnded;
        private int came;
        private int lost;
        private int stored;
        private int ended;
        private int broken;

        void begin() {
            beginRound();
            ended = 0;
            broken = 0;
        }

        private void beginRound() {
            ticksEnded = 0;
            came = 0;
            lost = 0;
            stored = 0;
        }

        void end(int promise, boolean oneWaits) {
            if (stored < promise) {
                tell(reason(promise, oneWaits));
            }
            ended++;
            beginRound();
        }

        private int reason(int promise, boolean oneWaits) {
            if (came < promise) {
                return TOO_FEW_CAME;
            }
            if (lost > 0) {
                return ONE_WAS_LOST;
            }
            return oneWaits ? ONE_WAITS : NO_OTHER_REASON;
        }

        private void tell(int why) {
            int at = broken % BROKEN_TOLD * BROKEN_COLUMNS;
            if (at >= 0 && at + 2 < told.length) {
                told[at] = ended;
                told[at + 1] = why;
                told[at + 2] = stored;
            }
            broken++;
        }

        boolean tells(int k) {
            return k >= 0 && k < BROKEN_TOLD && k < broken;
        }

        int get(int k, int what) {
            int at = (broken - 1 - k) % BROKEN_TOLD * BROKEN_COLUMNS + what;
            return at >= 0 && at < told.length ? told[at] : NONE;
        }

        void copyFrom(Rounds other) {
            System.arraycopy(other.told, 0, told, 0, BROKEN_TOLD * BROKEN_COLUMNS);
            ticksEnded = other.ticksEnded;
            came = other.came;
            lost = other.lost;
            stored = other.stored;
            ended = other.ended;
            broken = other.broken;
        }
    }

    /** Everything but the text and the save slots. */
    private static final class State {
        private final int[] settings = new int[SETTINGS];
        private final Blocks blocks = new Blocks();
        private final Frames kept = new Frames(new int[MAX_BLOCKS * COLUMNS]);
        private final Frames queue = new Frames(new int[MAX_WAITING * COLUMNS]);
        private final Rounds rounds = new Rounds();
        private int ticksEnded;
        private int came;
        private int dropped;
        private int lost;
        private int late;
        private int lastPicture;

        State() {
            begin(BLOCKS_AT_FIRST);
        }

        void begin(int count) {
            System.arraycopy(SETTING_AT_FIRST, 0, settings, 0, SETTINGS);
            blocks.begin(count);
            kept.length = 0;
            queue.length = 0;
            rounds.begin();
            ticksEnded = 0;
            came = 0;
            dropped = 0;
            lost = 0;
            late = 0;
            lastPicture = NONE;
        }

        int receive(int picture) {
            int size = lastPicture == NONE
                    ? SIZE_OF_FIRST : 1 + difference(lastPicture, picture) / CHANGE_A_BLOCK;
            int number = came;
            came++;
            rounds.came++;
            lastPicture = picture;
            if (queue.length >= MAX_WAITING) {
                lost++;
                rounds.lost++;
                return NONE;
            }
            queue.add(number, picture, size, ticksEnded);
            return number;
        }

        /** Lets n ticks go by; answers how many frames are stored in them. */
        int pass(int n) {
            int stored = 0;
            for (int t = 0; t < n; t++) {
                blocks.clean(settings[PACE]);
                stored = stored + storeWaiting();
                makeRoomForFirst();
                endTick();
            }
            return stored;
        }

        private int storeWaiting() {
            int stored = 0;
            while (stored < MAX_WAITING && queue.length > 0 && blocks.free >= queue.get(0, SIZE)) {
                storeFirst();
                stored++;
            }
            return stored;
        }

        private void storeFirst() {
            int number = queue.get(0, NUMBER);
            int size = queue.get(0, SIZE);
            int cameIn = queue.get(0, CAME);
            int last = kept.length;
            kept.add(number, queue.get(0, PICTURE), size, cameIn);
            kept.measureChange(last);
            kept.put(last, DELAY, ticksEnded - cameIn);
            kept.put(last, LOWEST_BLOCK, blocks.take(number, size));
            queue.remove(0);
            rounds.stored++;
            if (ticksEnded > cameIn) {
                late++;
            }
        }

        private void makeRoomForFirst() {
            for (int k = 0; k < MAX_BLOCKS && kept.length > 0 && firstLacksBlocks(); k++) {
                dropKept(leastChanged());
            }
        }

        private boolean firstLacksBlocks() {
            return queue.length > 0 && blocks.free + blocks.dirty < queue.get(0, SIZE);
        }

        private void endTick() {
            ticksEnded++;
            rounds.ticksEnded++;
            if (rounds.ticksEnded >= settings[ROUND]) {
                rounds.end(settings[PROMISE], queue.length > 0);
            }
        }

        /** The first kept frame has no change to compare, so its turn comes only when it is alone. */
        int leastChanged() {
            if (kept.length <= 1) {
                return kept.length - 1;
            }
            int least = 1;
            for (int i = 2; i < MAX_BLOCKS && i < kept.length; i++) {
                if (kept.get(i, CHANGE) < kept.get(least, CHANGE)) {
                    least = i;
                }
            }
            return least;
        }

        int dropKept(int i) {
            int soiled = blocks.soil(kept.get(i, NUMBER));
            kept.remove(i);
            kept.measureChange(i);
            dropped++;
            return soiled;
        }

        int dropAll(int count) {
            int gone = kept.length + queue.length;
            dropped = dropped + gone;
            kept.length = 0;
            queue.length = 0;
            blocks.begin(count);
            return gone;
        }

        int change(int what, int v) {
            if (what < 0 || what >= SETTINGS) {
                return NONE;
            }
            int before = settings[what];
            settings[what] = v;
            return before;
        }

        boolean keeps(int number) {
            for (int i = 0; i < MAX_BLOCKS && i < kept.length; i++) {
                if (kept.get(i, NUMBER) == number) {
                    return true;
                }
            }
            return false;
        }

        void copyFrom(State other) {
            System.arraycopy(other.settings, 0, settings, 0, SETTINGS);
            blocks.copyFrom(other.blocks);
            kept.copyFrom(other.kept);
            queue.copyFrom(other.queue);
            rounds.copyFrom(other.rounds);
            ticksEnded = other.ticksEnded;
            came = other.came;
            dropped = other.dropped;
            lost = other.lost;
            late = other.late;
            lastPicture = other.lastPicture;
        }
    }

    /** The states that undo can take back; the oldest one gives its place when all are taken. */
    private static final class History {
        private final State[] states = new State[MAX_REMEMBERED];
        private int oldest;
        private int length;

        History() {
            for (int i = 0; i < MAX_REMEMBERED; i++) {
                states[i] = new State();
            }
        }

        private State place(int i) {
            int at = (oldest + i) % MAX_REMEMBERED;
            return at >= 0 && at < MAX_REMEMBERED ? states[at] : null;
        }

        void remember(State state) {
            State into = place(length);
            if (into != null) {
                into.copyFrom(state);
            }
            if (length < MAX_REMEMBERED) {
                length++;
            } else {
                oldest = (oldest + 1) % MAX_REMEMBERED;
            }
        }

        void takeBack(State state) {
            State from = place(length - 1);
            if (from != null) {
                state.copyFrom(from);
                length--;
            }
        }

        void forget() {
            oldest = 0;
            length = 0;
        }
    }

    /** A save slot. */
    private static final class Slot {
        private final State state = new State();
        private boolean filled;
    }
}
