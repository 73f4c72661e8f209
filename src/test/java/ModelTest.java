import java.util.ArrayList;
import java.util.List;
import java.util.TreeMap;
import java.util.regex.Matcher;
import java.util.regex.Pattern;

/** Long runs of calls, right and wrong ones, answered by FrameCard and by a slow model written from the document. */
public final class ModelTest {
    private static final String BAD_INDEX = "IndexOutOfBoundsException";
    private static final String BAD_ARGUMENT = "IllegalArgumentException";
    private static final String BAD_STATE = "IllegalStateException";

    /** What a call of the model throws. */
    private static final class Refusal extends RuntimeException {
        private static final long serialVersionUID = 1L;

        Refusal(String name) {
            super(name);
        }
    }

    private record Frame(int number, String picture, int size, int came, int storedAt, List<Integer> blocks) {
    }

    private record Break(int round, int why, int stored) {
    }

    /** Everything but the text and the save slots. Blocks are told by two sets: those dirty, those in use. */
    private static final class World {
        int[] settings = {2, 2, 4};
        int size = 24;
        int tick = 0;
        int came = 0;
        int late = 0;
        int droppedCount = 0;
        int lostCount = 0;
        String ahead = null;
        List<Frame> waiting = new ArrayList<>();
        TreeMap<Integer, Frame> kept = new TreeMap<>();
        List<Integer> dirty = new ArrayList<>();
        List<Break> breaks = new ArrayList<>();
        int rounds = 0;
        int roundTicks = 0;
        int roundCame = 0;
        int roundLost = 0;
        int roundStored = 0;

        World copy() {
            World w = new World();
            w.settings = settings.clone();
            w.size = size;
            w.tick = tick;
            w.came = came;
            w.late = late;
            w.droppedCount = droppedCount;
            w.lostCount = lostCount;
            w.ahead = ahead;
            w.waiting = new ArrayList<>(waiting);
            w.kept = new TreeMap<>(kept);
            w.dirty = new ArrayList<>(dirty);
            w.breaks = new ArrayList<>(breaks);
            w.rounds = rounds;
            w.roundTicks = roundTicks;
            w.roundCame = roundCame;
            w.roundLost = roundLost;
            w.roundStored = roundStored;
            return w;
        }

        int holder(int b) {
            for (Frame f : kept.values()) {
                if (f.blocks.contains(b)) {
                    return f.number;
                }
            }
            return dirty.contains(b) ? -2 : -1;
        }

        List<Integer> free() {
            List<Integer> free = new ArrayList<>();
            for (int b = 0; b < size; b++) {
                if (holder(b) == -1) {
                    free.add(b);
                }
            }
            return free;
        }

        List<Frame> inOrder() {
            return new ArrayList<>(kept.values());
        }

        int change(int i) {
            return i == 0 ? -1 : apart(inOrder().get(i - 1).picture, inOrder().get(i).picture);
        }

        int shoot(int picture) {
            need(picture >= 0 && picture <= 999999, BAD_ARGUMENT);
            String p = String.format("%06d", picture);
            int needs = ahead == null ? 7 : 1 + apart(ahead, p) / 9;
            ahead = p;
            came++;
            roundCame++;
            if (waiting.size() == 4) {
                lostCount++;
                roundLost++;
                return -1;
            }
            waiting.add(new Frame(came - 1, p, needs, tick, -1, List.of()));
            return came - 1;
        }

        int ticks(int n) {
            need(n >= 1 && n <= 50, BAD_ARGUMENT);
            int stored = 0;
            for (int t = 0; t < n; t++) {
                stored += tick();
            }
            return stored;
        }

        int tick() {
            dirty.sort(null);
            dirty = new ArrayList<>(dirty.subList(Math.min(settings[0], dirty.size()), dirty.size()));
            int stored = 0;
            while (!waiting.isEmpty() && free().size() >= waiting.get(0).size) {
                Frame f = waiting.remove(0);
                List<Integer> blocks = new ArrayList<>(free().subList(0, f.size));
                kept.put(f.number, new Frame(f.number, f.picture, f.size, f.came, tick, blocks));
                late += tick > f.came ? 1 : 0;
                stored++;
            }
            roundStored += stored;
            while (!waiting.isEmpty() && !kept.isEmpty() && free().size() + dirty.size() < waiting.get(0).size) {
                discard(least());
            }
            tick++;
            roundTicks++;
            if (roundTicks >= settings[2]) {
                endRound();
            }
            return stored;
        }

        void endRound() {
            if (roundStored < settings[1]) {
                int why = 4;
                if (!waiting.isEmpty()) {
                    why = 3;
                }
                if (roundLost > 0) {
                    why = 2;
                }
                if (roundCame < settings[1]) {
                    why = 1;
                }
                breaks.add(0, new Break(rounds, why, roundStored));
            }
            rounds++;
            roundTicks = 0;
            roundCame = 0;
            roundLost = 0;
            roundStored = 0;
        }

        int least() {
            List<Frame> all = inOrder();
            int best = -1;
            int bestChange = 1000;
            for (int i = all.size() - 1; i >= 0; i--) {
                int c = i == 0 ? 999 : change(i);
                if (c <= bestChange) {
                    best = all.get(i).number;
                    bestChange = c;
                }
            }
            return best;
        }

        int discard(int number) {
            Frame f = kept.remove(number);
            dirty.addAll(f.blocks);
            droppedCount++;
            return f.blocks.size();
        }

        int drop(int i) {
            need(i >= 0 && i < kept.size(), BAD_INDEX);
            return discard(inOrder().get(i).number);
        }

        int format(int blocks) {
            need(blocks >= 8 && blocks <= 48, BAD_ARGUMENT);
            int gone = kept.size() + waiting.size();
            kept.clear();
            waiting.clear();
            dirty.clear();
            size = blocks;
            droppedCount += gone;
            return gone;
        }

        int set(int what, int v) {
            need(what >= 0 && what <= 2, BAD_ARGUMENT);
            int[][] range = {{0, 8}, {0, 9}, {1, 20}};
            need(v >= range[what][0] && v <= range[what][1], BAD_ARGUMENT);
            int before = settings[what];
            settings[what] = v;
            return before;
        }
    }

    private static final class Model {
        private static final Pattern CARD = Pattern.compile("C(0[89]|[1-3][0-9]|4[0-8])[0-8][0-9](0[1-9]|1[0-9]|20)"
                + "(s[0-9]{6}|n[1-9]|d([0-3][0-9]|4[0-7]))*", Pattern.DOTALL);
        String text = "";
        World now = new World();
        List<World> past = new ArrayList<>();
        World[] slots = new World[2];

        int answer(int call, int a, int b, long c) {
            switch (call) {
                case 0: return append(a);
                case 1: return clearText();
                case 2: return errorPosition();
                case 3: return load();
                case 4: return about(a);
                case 5: return frame(a, b);
                case 6: return waiting(a, b);
                case 7: return block(a);
                case 8: return broken(a, b);
                case 9: return setting(a);
                case 10: case 11: case 12: case 13: case 14: return action(call, a, b);
                case 15: return undo();
                case 16: return storedIn(a);
                case 17: return now.least();
                case 18: return room(a);
                case 19: return leastPace();
                case 20: return drops(a, b);
                case 21: return runScript(a, c);
                case 22: return simulate(c, a);
                case 23: return save(a);
                default: return restore(a);
            }
        }

        int append(int c) {
            need(c >= 0 && c <= 255, BAD_ARGUMENT);
            need(text.length() < 120, BAD_STATE);
            text += (char) c;
            return text.length();
        }

        int clearText() {
            int n = text.length();
            text = "";
            return n;
        }

        int errorPosition() {
            for (int i = 1; i <= text.length(); i++) {
                Matcher m = CARD.matcher(text.substring(0, i));
                if (!m.matches() && !m.hitEnd()) {
                    return i - 1;
                }
            }
            return CARD.matcher(text).matches() ? -1 : text.length();
        }

        int load() {
            need(errorPosition() == -1, BAD_STATE);
            now = new World();
            now.size = Integer.parseInt(text.substring(1, 3));
            now.settings = new int[] {Integer.parseInt(text.substring(3, 4)),
                Integer.parseInt(text.substring(4, 5)), Integer.parseInt(text.substring(5, 7))};
            past.clear();
            slots = new World[2];
            int leftOut = 0;
            Matcher m = Pattern.compile("([snd])([0-9]+)").matcher(text.substring(7));
            while (m.find()) {
                int v = Integer.parseInt(m.group(2));
                try {
                    switch (m.group(1)) {
                        case "s": now.shoot(v); break;
                        case "n": now.ticks(v); break;
                        default: now.drop(v);
                    }
                } catch (Refusal e) {
                    leftOut++;
                }
            }
            return leftOut;
        }

        int about(int what) {
            need(what >= 0 && what <= 13, BAD_ARGUMENT);
            int[] all = {now.tick, now.came, now.kept.size(), now.waiting.size(), now.droppedCount, now.lostCount,
                now.late, now.free().size(), now.dirty.size(), now.rounds, now.breaks.size(), now.size,
                now.roundTicks, now.roundStored};
            return all[what];
        }

        int frame(int i, int what) {
            need(i >= 0 && i < now.kept.size(), BAD_INDEX);
            need(what >= 0 && what <= 6, BAD_ARGUMENT);
            Frame f = now.inOrder().get(i);
            int[] all = {f.number, Integer.parseInt(f.picture), f.size, now.change(i), f.came,
                f.storedAt - f.came, f.blocks.get(0)};
            return all[what];
        }

        int waiting(int i, int what) {
            need(i >= 0 && i < now.waiting.size(), BAD_INDEX);
            need(what >= 0 && what <= 3, BAD_ARGUMENT);
            Frame f = now.waiting.get(i);
            int[] all = {f.number, Integer.parseInt(f.picture), f.size, f.came};
            return all[what];
        }

        int block(int b) {
            need(b >= 0 && b < now.size, BAD_INDEX);
            return now.holder(b);
        }

        int broken(int k, int what) {
            need(k >= 0 && k <= 9 && k < now.breaks.size(), BAD_INDEX);
            need(what >= 0 && what <= 2, BAD_ARGUMENT);
            Break b = now.breaks.get(k);
            int[] all = {b.round, b.why, b.stored};
            return all[what];
        }

        int setting(int what) {
            need(what >= 0 && what <= 2, BAD_ARGUMENT);
            return now.settings[what];
        }

        int action(int call, int a, int b) {
            World before = now.copy();
            int answer = switch (call) {
                case 10 -> now.shoot(a);
                case 11 -> now.ticks(a);
                case 12 -> now.drop(a);
                case 13 -> now.format(a);
                default -> now.set(a, b);
            };
            past.add(before);
            if (past.size() > 14) {
                past.remove(0);
            }
            return answer;
        }

        int undo() {
            need(!past.isEmpty(), BAD_STATE);
            now = past.remove(past.size() - 1);
            return past.size();
        }

        int storedIn(int i) {
            need(i >= 0 && i < now.waiting.size(), BAD_INDEX);
            int number = now.waiting.get(i).number;
            World w = now.copy();
            for (int t = 1; t <= 99; t++) {
                w.tick();
                if (w.waiting.stream().noneMatch(f -> f.number == number)) {
                    return t;
                }
            }
            return -1;
        }

        int room(int change) {
            need(change >= 0 && change <= 54, BAD_ARGUMENT);
            int left = now.free().size() + now.dirty.size();
            int count = 0;
            while (left >= 1 + change / 9) {
                left -= 1 + change / 9;
                count++;
            }
            return count;
        }

        int leastPace() {
            for (int pace = 0; pace <= 8; pace++) {
                World w = now.copy();
                w.set(0, pace);
                w.ticks(5);
                if (w.waiting.isEmpty()) {
                    return pace;
                }
            }
            return -1;
        }

        int drops(int picture, int n) {
            World w = now.copy();
            w.shoot(picture);
            w.ticks(n);
            return w.droppedCount - now.droppedCount;
        }

        int runScript(int n, long script) {
            need(n == 1 || n == 2, BAD_ARGUMENT);
            need(script >= 0 && Long.toString(script).length() <= 7 * n, BAD_ARGUMENT);
            String digits = String.format("%0" + 7 * n + "d", script);
            World w = now.copy();
            for (int k = 0; k < n; k++) {
                try {
                    need(succeeds(w, digits.substring(7 * k, 7 * k + 7)), BAD_STATE);
                } catch (Refusal e) {
                    return k;
                }
            }
            return -1;
        }

        boolean succeeds(World w, String g) {
            int v = Integer.parseInt(g.substring(1));
            if (g.matches("1.*")) {
                w.shoot(v);
            } else if (g.matches("20000..")) {
                w.ticks(v);
            } else if (g.matches("30000..")) {
                w.drop(v);
            } else if (g.matches("4.000..")) {
                w.set(g.charAt(1) - '0', Integer.parseInt(g.substring(5)));
            } else if (g.matches("50000..")) {
                return w.kept.size() >= v;
            } else if (g.matches("60000..")) {
                return w.droppedCount <= v;
            } else if (g.matches("70000..")) {
                return w.breaks.size() <= v;
            } else if (g.matches("80000..")) {
                return w.free().size() >= v;
            } else if (g.matches("900....")) {
                return w.kept.containsKey(v);
            } else {
                return false;
            }
            return true;
        }

        int simulate(long seed, int m) {
            need(m >= 1 && m <= 99, BAD_ARGUMENT);
            World w = now.copy();
            long x = seed;
            int p = 123456;
            for (int t = 0; t < m; t++) {
                x = x * 6364136223846793005L + 1442695040888963407L;
                int r = (int) (x >>> 33);
                if (r % 4 == 0) {
                    p = r / 64 % 1000000;
                }
                if (r % 4 == 1) {
                    p += r / 64 % 10 - p % 10;
                }
                if (r / 4 % 4 < 3) {
                    w.shoot(p);
                }
                w.tick();
            }
            return 10000 * (w.droppedCount - now.droppedCount) + 100 * (w.lostCount - now.lostCount) + w.kept.size();
        }

        int save(int slot) {
            need(slot == 0 || slot == 1, BAD_INDEX);
            slots[slot] = now.copy();
            return now.kept.size();
        }

        int restore(int slot) {
            need(slot == 0 || slot == 1, BAD_INDEX);
            need(slots[slot] != null, BAD_STATE);
            now = slots[slot].copy();
            past.clear();
            return now.kept.size();
        }
    }

    private static final String[] NAMES = {"append", "clearText", "errorPosition", "load", "about", "frame", "waiting",
        "block", "broken", "setting", "shoot", "ticks", "drop", "format", "set", "undo", "storedIn", "least", "room",
        "leastPace", "drops", "runScript", "simulate", "save", "restore"};

    private static final int[] ODD = {-1, 0, 1, 2, 3, 4, 5, 6, 7, 8, 9, 10, 13, 14, 20, 21, 23, 24, 47, 48, 49, 50, 51, 54, 55, 98,
        99, 100, 255, 256, 999999, 1000000, Integer.MAX_VALUE, Integer.MIN_VALUE, Integer.MAX_VALUE - 1};

    private static long chance = 20261119L;

    private static int pick(int below) {
        chance = chance * 6364136223846793005L + 1442695040888963407L;
        return (int) ((chance >>> 33) % below);
    }

    private static void need(boolean right, String name) {
        if (!right) {
            throw new Refusal(name);
        }
    }

    private static int apart(String one, String other) {
        int sum = 0;
        for (int i = 0; i < 6; i++) {
            sum += Math.abs(one.charAt(i) - other.charAt(i));
        }
        return sum;
    }

    private static int call(FrameCard x, int call, int a, int b, long c) {
        switch (call) {
            case 0: return x.append(a);
            case 1: return x.clearText();
            case 2: return x.errorPosition();
            case 3: return x.load();
            case 4: return x.about(a);
            case 5: return x.frame(a, b);
            case 6: return x.waiting(a, b);
            case 7: return x.block(a);
            case 8: return x.broken(a, b);
            case 9: return x.setting(a);
            case 10: return x.shoot(a);
            case 11: return x.ticks(a);
            case 12: return x.drop(a);
            case 13: return x.format(a);
            case 14: return x.set(a, b);
            case 15: return x.undo();
            case 16: return x.storedIn(a);
            case 17: return x.least();
            case 18: return x.room(a);
            case 19: return x.leastPace();
            case 20: return x.drops(a, b);
            case 21: return x.runScript(a, c);
            case 22: return x.simulate(c, a);
            case 23: return x.save(a);
            default: return x.restore(a);
        }
    }

    /** Behind this many calls an object's answers are free. */
    private static final int CALLS_OF_AN_OBJECT = 512;

    private static final StringBuilder story = new StringBuilder();
    private static int calls = 0;
    private static int wrong = 0;

    private static void compare(FrameCard x, Model m, int call, int a, int b, long c) {
        if (calls == CALLS_OF_AN_OBJECT) {
            return;
        }
        calls++;
        String want;
        try {
            want = Integer.toString(m.answer(call, a, b, c));
        } catch (Refusal e) {
            want = "throws." + e.getMessage();
        }
        String got;
        try {
            got = Integer.toString(call(x, call, a, b, c));
        } catch (RuntimeException e) {
            got = "throws." + e.getClass().getSimpleName();
        }
        story.append(NAMES[call]).append('(').append(a).append(", ").append(b).append(", ").append(c).append(") -> ")
            .append(got).append('\n');
        if (!got.equals(want)) {
            wrong++;
            System.out.println(story.length() > 6000 ? story.substring(story.length() - 6000) : story.toString());
            System.out.println("due is " + want);
        }
    }

    private static int picture() {
        int[] near = {0, 1, 9, 10, 99, 111, 1000, 9999, 99999, 999999, 900000, 123456, 555555, 543210};
        int kind = pick(10);
        if (kind < 5) {
            return near[pick(near.length)];
        }
        return kind < 8 ? pick(1000000) : pick(20);
    }

    private static long script() {
        long groups = 0;
        for (int k = 0; k < 2; k++) {
            int command = pick(10);
            int rest = pick(command == 1 ? 1000000 : 60);
            if (command == 4) {
                rest = pick(4) * 100000 + pick(23);
            }
            if (pick(12) == 0) {
                rest = pick(1000000);
            }
            groups = groups * 10000000L + command * 1000000L + rest;
        }
        return groups;
    }

    private static void typeCard(FrameCard x, Model m) {
        StringBuilder s = new StringBuilder();
        s.append(String.format("C%02d%d%d%02d", 8 + pick(41), pick(9), pick(10), 1 + pick(20)));
        for (int k = pick(25); k > 0; k--) {
            int kind = pick(6);
            if (kind < 4) {
                s.append(String.format("s%06d", picture()));
            } else {
                s.append(kind == 4 ? "n" + (1 + pick(9)) : String.format("d%02d", pick(pick(2) == 0 ? 5 : 48)));
            }
        }
        if (pick(3) == 0) {
            s.setCharAt(pick(s.length()), "C0123456789snd x".charAt(pick(16)));
        }
        if (pick(4) == 0) {
            s.setLength(pick(s.length()));
        }
        for (int i = 0; i < s.length(); i++) {
            compare(x, m, 0, s.charAt(i), 0, 0L);
        }
    }

    private static void anyCall(FrameCard x, Model m) {
        int call = pick(30) < 25 ? pick(25) : 10 + pick(2);
        int a = ODD[pick(ODD.length)];
        int b = ODD[pick(ODD.length)];
        long c = pick(2) == 0 ? script() : (long) pick(1 << 30) * pick(1 << 30) * (pick(2) * 2 - 1);
        if (pick(8) != 0) {
            int few = call == 8 ? 11 : Math.max(1, m.now.kept.size() + 1);
            a = switch (call) {
                case 4 -> pick(14);
                case 5, 8, 12 -> pick(few);
                case 6, 16 -> pick(5);
                case 7 -> pick(48);
                case 9, 14 -> pick(3);
                case 10, 20 -> picture();
                case 11 -> 1 + pick(pick(4) == 0 ? 50 : 4);
                case 13 -> 8 + pick(41);
                case 18 -> pick(55);
                case 21 -> 1 + pick(2);
                case 22 -> 1 + pick(99);
                case 23, 24 -> pick(2);
                default -> a;
            };
            b = switch (call) {
                case 5 -> pick(7);
                case 6 -> pick(4);
                case 8 -> pick(3);
                case 14 -> pick(10);
                case 20 -> 1 + pick(50);
                default -> b;
            };
        }
        if (call == 21 && a == 1 && c >= 0 && pick(4) != 0) {
            c = c % 10000000L;
        }
        if ((call == 13 || call == 24 || call == 3) && pick(4) != 0) {
            call = 10;
            a = picture();
        }
        if (call == 3 && pick(3) != 0) {
            compare(x, m, 1, 0, 0, 0L);
            typeCard(x, m);
        }
        compare(x, m, call, a, b, c);
    }

    /** Everything that can be looked at. */
    private static void lookAtAll(FrameCard x, Model m) {
        for (int what = 0; what < 14; what++) {
            compare(x, m, 4, what, 0, 0L);
        }
        for (int i = 0; i <= m.now.kept.size(); i++) {
            for (int what = 0; what < 7; what++) {
                compare(x, m, 5, i, what, 0L);
            }
        }
        for (int i = 0; i < 5; i++) {
            for (int what = 0; what < 4; what++) {
                compare(x, m, 6, i, what, 0L);
            }
        }
        for (int b = 0; b <= m.now.size; b++) {
            compare(x, m, 7, b, 0, 0L);
        }
        for (int k = 0; k < 11; k++) {
            for (int what = 0; what < 3; what++) {
                compare(x, m, 8, k, what, 0L);
            }
        }
        for (int what = 0; what < 3; what++) {
            compare(x, m, 9, what, 0, 0L);
        }
    }

    private static void run(int kind) {
        story.setLength(0);
        calls = 0;
        FrameCard x = new FrameCard();
        Model m = new Model();
        if (kind % 3 != 0) {
            typeCard(x, m);
            compare(x, m, 2, 0, 0, 0L);
            compare(x, m, 3, 0, 0, 0L);
        }
        int steps = pick(kind % 4 == 0 ? 400 : 120);
        for (int k = 0; k < steps && wrong == 0; k++) {
            anyCall(x, m);
        }
        lookAtAll(x, m);
        for (int k = 0; k < 15; k++) {
            compare(x, m, 15, 0, 0, 0L);
            compare(x, m, 4, pick(14), 0, 0L);
        }
    }

    public static void main(String[] args) {
        int runs = args.length > 0 ? Integer.parseInt(args[0]) : 1000;
        for (int k = 0; k < runs && wrong == 0; k++) {
            run(k);
        }
        System.out.println(wrong == 0 ? "model: " + runs + " runs answered alike" : "model: answers differ");
        System.exit(wrong == 0 ? 0 : 1);
    }
}
