/** For each promise: ordinary inputs, the edges that the document names, and wrong inputs. */
public final class PromisesTest extends Checks {
    private static void promise01() {
        FrameCard x = new FrameCard();
        aboutIs(x, 0, 0, 0, 0, 0, 0, 0, 24, 0, 0, 0, 24, 0, 0);
        due(2, x.setting(0));
        due(2, x.setting(1));
        due(4, x.setting(2));
        for (int b = 0; b < 24; b++) {
            due(FrameCard.NONE, x.block(b));
        }
        index(() -> x.block(24));
        due(0, x.clearText());
        state(x::undo);
        state(() -> x.restore(0));
        state(() -> x.restore(1));
        due(-1, FrameCard.NONE);
    }

    private static void promise02() {
        FrameCard x = new FrameCard();
        argument(() -> x.append(-1));
        argument(() -> x.append(256));
        argument(() -> x.append(Integer.MAX_VALUE));
        argument(() -> x.append(Integer.MIN_VALUE));
        due(1, x.append(0));
        due(2, x.append(255));
        for (int n = 3; n <= 120; n++) {
            due(n, x.append('n'));
        }
        state(() -> x.append('n'));
        argument(() -> x.append(256));
        argument(() -> x.append(-1));
        due(120, x.clearText());
        due(1, x.append('C'));
    }

    private static void promise03() {
        FrameCard x = new FrameCard();
        due(0, x.clearText());
        type(x, "C24x");
        due(4, x.clearText());
        due(0, x.clearText());
        due(0, x.errorPosition());
        type(x, "C242204");
        due(-1, x.errorPosition());
        due(7, x.clearText());
    }

    private static void promise04() {
        errorIs(0, "");
        errorIs(0, "c");
        errorIs(0, "2");
        errorIs(1, "C");
        errorIs(1, "C5");
        errorIs(1, "CC");
        errorIs(1, "C:");
        errorIs(1, "C/");
        errorIs(2, "C0");
        errorIs(2, "C07");
        errorIs(3, "C08");
        errorIs(3, "C09");
        errorIs(3, "C10");
        errorIs(3, "C39");
        errorIs(3, "C48");
        errorIs(2, "C49");
        errorIs(3, "C089");
        errorIs(4, "C088");
        errorIs(4, "C088x");
        errorIs(5, "C0889");
        errorIs(5, "C0803");
        errorIs(6, "C08000");
        errorIs(6, "C080000");
        errorIs(-1, "C080001");
        errorIs(-1, "C488920");
        errorIs(6, "C488921");
        errorIs(5, "C488930");
        errorIs(6, "C48892");
        errorIs(-1, "C488919");
        errorIs(7, "C242204 ");
        errorIs(7, "C242204C");
        errorIs(8, "C242204s");
        errorIs(13, "C242204s12345");
        errorIs(13, "C242204s12345n1");
        errorIs(-1, "C242204s123456");
        errorIs(14, "C242204s1234567");
        errorIs(8, "C242204n");
        errorIs(8, "C242204n0");
        errorIs(-1, "C242204n1n9");
        errorIs(9, "C242204n12");
        errorIs(8, "C242204d");
        errorIs(8, "C242204d5");
        errorIs(9, "C242204d4");
        errorIs(9, "C242204d48");
        errorIs(-1, "C242204d00d39d40d47");
        errorIs(10, "C242204d00x");
        errorIs(7, "C242204" + (char) 0);
        errorIs(7, "C242204" + (char) 255);
        errorIs(7, "C242204S000000");
    }

    private static void promise05() {
        FrameCard y = new FrameCard();
        state(y::load);
        FrameCard x = text("C10355");
        x.shoot(5);
        x.save(0);
        state(x::load);
        due(1, x.about(1));
        type(x, "5");
        state(x::load);
        x.clearText();
        type(x, "C103510s123456n2d00d00d05s000000");
        due(2, x.load());
        aboutIs(x, 2, 2, 0, 1, 1, 0, 0, 3, 7, 0, 0, 10, 2, 1);
        due(3, x.setting(0));
        due(5, x.setting(1));
        due(10, x.setting(2));
        due(0, x.waiting(0, 1));
        due(3, x.waiting(0, 2));
        due(2, x.waiting(0, 3));
        state(x::undo);
        state(() -> x.restore(0));
        x.save(0);
        x.save(1);
        x.shoot(1);
        due(2, x.load());
        state(() -> x.restore(0));
        state(() -> x.restore(1));
        state(x::undo);
        aboutIs(x, 2, 2, 0, 1, 1, 0, 0, 3, 7, 0, 0, 10, 2, 1);
        due(32, x.clearText());
        FrameCard used = card("C081101s000000s999999n1n1n9s000000s000000s000000s000000s000000");
        tell(used.about(5) > 0 && used.about(6) > 0 && used.about(4) > 0 && used.about(9) > 0 && used.about(10) > 0,
                "the card that is to be made new had too little in it");
        used.ticks(1);
        used.clearText();
        type(used, "C482204");
        due(0, used.load());
        aboutIs(used, 0, 0, 0, 0, 0, 0, 0, 48, 0, 0, 0, 48, 0, 0);
        index(() -> used.broken(0, 0));
        used.shoot(0);
        due(7, used.waiting(0, 2));
        aboutIs(card("C482204"), 0, 0, 0, 0, 0, 0, 0, 48, 0, 0, 0, 48, 0, 0);
    }

    private static void promise06() {
        FrameCard x = new FrameCard();
        argument(() -> x.about(-1));
        argument(() -> x.about(14));
        argument(() -> x.about(Integer.MAX_VALUE));
        for (int i = 0; i < 6; i++) {
            x.shoot(0);
        }
        aboutIs(x, 0, 6, 0, 4, 0, 2, 0, 24, 0, 0, 0, 24, 0, 0);
        x.ticks(1);
        aboutIs(x, 1, 6, 4, 0, 0, 2, 0, 14, 0, 0, 0, 24, 1, 4);
        x.drop(0);
        aboutIs(x, 1, 6, 3, 0, 1, 2, 0, 14, 7, 0, 0, 24, 1, 4);
        x.ticks(3);
        aboutIs(x, 4, 6, 3, 0, 1, 2, 0, 20, 1, 1, 0, 24, 0, 0);
        x.ticks(4);
        aboutIs(x, 8, 6, 3, 0, 1, 2, 0, 21, 0, 2, 1, 24, 0, 0);
        x.set(2, 20);
        x.ticks(19);
        aboutIs(x, 27, 6, 3, 0, 1, 2, 0, 21, 0, 2, 1, 24, 19, 0);
        x.format(8);
        x.shoot(999999);
        x.ticks(1);
        x.shoot(0);
        x.ticks(1);
        x.ticks(3);
        aboutIs(x, 32, 8, 1, 0, 5, 2, 1, 0, 1, 3, 2, 8, 4, 1);
    }

    private static void promise07() {
        FrameCard x = new FrameCard();
        index(() -> x.frame(0, 0));
        x.shoot(123456);
        index(() -> x.frame(0, 0));
        x.ticks(3);
        x.shoot(123465);
        x.shoot(323405);
        x.ticks(1);
        int[][] want = {{0, 123456, 7, -1, 0, 0, 0}, {1, 123465, 1, 2, 3, 0, 7}, {2, 323405, 1, 8, 3, 0, 8}};
        for (int i = 0; i < 3; i++) {
            for (int what = 0; what < 7; what++) {
                due(want[i][what], x.frame(i, what));
            }
        }
        argument(() -> x.frame(0, 7));
        argument(() -> x.frame(2, -1));
        index(() -> x.frame(3, 0));
        index(() -> x.frame(-1, 0));
        index(() -> x.frame(3, 7));
        index(() -> x.frame(-1, -1));
        index(() -> x.frame(Integer.MIN_VALUE, 0));
        index(() -> x.frame(Integer.MAX_VALUE, 0));
        x.drop(1);
        due(2, x.frame(1, 0));
        due(8, x.frame(1, 3));
        x.drop(0);
        due(-1, x.frame(0, 3));
        due(8, x.frame(0, 6));
        frameStoredLate();
    }

    private static void frameStoredLate() {
        FrameCard x = card("C081209s000000n2s999999");
        x.drop(0);
        x.ticks(5);
        due(1, x.about(3));
        x.ticks(1);
        due(1, x.frame(0, 0));
        due(7, x.frame(0, 2));
        due(-1, x.frame(0, 3));
        due(2, x.frame(0, 4));
        due(5, x.frame(0, 5));
        due(0, x.frame(0, 6));
    }

    private static void promise08() {
        FrameCard x = new FrameCard();
        index(() -> x.waiting(0, 0));
        x.shoot(1);
        x.ticks(2);
        x.shoot(10);
        x.shoot(999999);
        due(1, x.waiting(0, 0));
        due(10, x.waiting(0, 1));
        due(1, x.waiting(0, 2));
        due(2, x.waiting(0, 3));
        due(2, x.waiting(1, 0));
        due(999999, x.waiting(1, 1));
        due(6, x.waiting(1, 2));
        due(2, x.waiting(1, 3));
        index(() -> x.waiting(2, 0));
        index(() -> x.waiting(-1, 0));
        index(() -> x.waiting(4, 4));
        index(() -> x.waiting(Integer.MAX_VALUE, -1));
        argument(() -> x.waiting(0, 4));
        argument(() -> x.waiting(1, -1));
        x.shoot(0);
        x.shoot(0);
        due(1, x.waiting(3, 2));
        index(() -> x.waiting(4, 0));
    }

    private static void promise09() {
        FrameCard x = card("C100209s000000n1s000000s000000n1");
        for (int b = 0; b < 9; b++) {
            due(b < 7 ? 0 : b - 6, x.block(b));
        }
        due(-1, x.block(9));
        x.drop(1);
        due(-2, x.block(7));
        due(2, x.block(8));
        x.drop(0);
        x.set(0, 3);
        x.ticks(1);
        due(-1, x.block(2));
        due(-2, x.block(3));
        due(-2, x.block(7));
        x.shoot(111000);
        x.shoot(888888);
        x.ticks(1);
        due(3, x.block(0));
        due(4, x.block(1));
        due(4, x.block(5));
        due(-2, x.block(6));
        due(-2, x.block(7));
        due(4, x.block(9));
        index(() -> x.block(10));
        index(() -> x.block(-1));
        index(() -> x.block(Integer.MIN_VALUE));
        x.format(48);
        due(-1, x.block(47));
        index(() -> x.block(48));
    }

    private static void promise10() {
        FrameCard x = new FrameCard();
        index(() -> x.broken(0, 0));
        x.ticks(4);
        due(0, x.broken(0, 0));
        due(1, x.broken(0, 1));
        due(0, x.broken(0, 2));
        index(() -> x.broken(1, 0));
        index(() -> x.broken(-1, 0));
        index(() -> x.broken(1, 3));
        argument(() -> x.broken(0, 3));
        argument(() -> x.broken(0, -1));
        x.set(2, 1);
        for (int i = 0; i < 11; i++) {
            x.shoot(0);
            x.ticks(1);
        }
        due(12, x.about(10));
        for (int k = 0; k < 10; k++) {
            due(11 - k, x.broken(k, 0));
            due(1, x.broken(k, 1));
            due(1, x.broken(k, 2));
        }
        index(() -> x.broken(10, 0));
        index(() -> x.broken(Integer.MAX_VALUE, 0));
        brokenReasons();
    }

    private static void brokenReasons() {
        FrameCard lost = card("C080101s000000s999999s000000s999999s000000n1");
        due(1, lost.about(5));
        due(0, lost.about(10));
        FrameCard lostAlso = card("C080201s000000s999999s000000s999999s000000n1");
        due(2, lostAlso.broken(0, 1));
        due(1, lostAlso.broken(0, 2));
        FrameCard fewAlso = card("C080901s000000s999999s000000s999999s000000n1");
        due(1, fewAlso.broken(0, 1));
        FrameCard waits = card("C080201s000000s999999n1");
        due(3, waits.broken(0, 1));
        due(1, waits.broken(0, 2));
        waits.ticks(1);
        due(1, waits.broken(0, 1));
        due(1, waits.broken(0, 0));
        FrameCard other = card("C080201s000000s999999");
        other.set(2, 2);
        other.ticks(1);
        other.format(8);
        other.ticks(1);
        due(4, other.broken(0, 1));
        due(1, other.broken(0, 2));
        FrameCard none = card("C080001");
        none.ticks(50);
        due(0, none.about(10));
        due(50, none.about(9));
    }

    private static void promise11() {
        FrameCard x = card("C240901");
        due(0, x.setting(0));
        due(9, x.setting(1));
        due(1, x.setting(2));
        argument(() -> x.setting(3));
        argument(() -> x.setting(-1));
        argument(() -> x.setting(Integer.MIN_VALUE));
    }

    private static void promise12() {
        FrameCard x = new FrameCard();
        argument(() -> x.shoot(-1));
        argument(() -> x.shoot(1000000));
        argument(() -> x.shoot(Integer.MAX_VALUE));
        due(0, x.about(1));
        due(0, x.shoot(0));
        due(1, x.shoot(800000));
        due(2, x.shoot(999999));
        due(3, x.shoot(999990));
        due(-1, x.shoot(0));
        due(-1, x.shoot(999999));
        due(6, x.about(1));
        due(2, x.about(5));
        int[] sizes = {7, 1, 6, 2};
        for (int i = 0; i < 4; i++) {
            due(sizes[i], x.waiting(i, 2));
        }
        x.ticks(1);
        due(6, x.shoot(0));
        due(7, x.waiting(0, 2));
        x.format(24);
        due(7, x.shoot(0));
        due(1, x.waiting(0, 2));
        sizesAtTheEdges();
    }

    private static void sizesAtTheEdges() {
        int[][] pairs = {{0, 8, 1}, {0, 9, 2}, {0, 98, 2}, {0, 99, 3}, {90, 9, 3}, {0, 999989, 6},
            {0, 999999, 7}, {500000, 5, 2}, {500000, 4, 2}, {500000, 3, 1}};
        for (int[] pair : pairs) {
            FrameCard x = new FrameCard();
            x.shoot(pair[0]);
            x.shoot(pair[1]);
            due(pair[2], x.waiting(1, 2));
        }
    }

    private static void promise13() {
        FrameCard x = new FrameCard();
        argument(() -> x.ticks(0));
        argument(() -> x.ticks(51));
        argument(() -> x.ticks(-1));
        due(0, x.about(0));
        due(0, x.ticks(50));
        due(50, x.about(0));
        due(12, x.about(9));
        due(2, x.about(12));
        cleaningComesAheadOfStoring();
        smallestChangeIsDropped();
        onlyFirstIsDropped();
        roundIsShortened();
    }

    private static void cleaningComesAheadOfStoring() {
        FrameCard x = card("C083001s000000n1d00s999999");
        due(1, x.about(7));
        due(0, x.ticks(1));
        due(4, x.about(7));
        due(4, x.about(8));
        due(1, x.ticks(1));
        due(0, x.frame(0, 6));
        due(1, x.frame(0, 5));
        due(1, x.about(6));
    }

    private static void smallestChangeIsDropped() {
        FrameCard x = card("C100001s000000n1s000002s000003s000005n1");
        due(0, x.about(7));
        x.shoot(999999);
        due(0, x.ticks(1));
        due(4, x.about(4));
        due(0, x.about(2));
        FrameCard y = card("C120001s000000n1s000002s000003s000004s000006n1s000007n1");
        due(6, y.about(2));
        y.shoot(8);
        y.ticks(1);
        due(1, y.about(4));
        due(2, y.frame(1, 1));
        due(4, y.frame(2, 1));
        due(2, y.frame(2, 3));
        due(-2, y.block(8));
        due(0, y.about(7));
        due(1, y.about(3));
        y.set(0, 1);
        due(1, y.ticks(1));
        due(6, y.block(8));
        FrameCard three = card("C120001s000000n1s000002s000003s000004s000006n1s000007n1s000999n1");
        due(3, three.about(2));
        int[] left = {0, 4, 6};
        for (int i = 0; i < 3; i++) {
            due(left[i], three.frame(i, 1));
        }
    }

    private static void onlyFirstIsDropped() {
        FrameCard x = card("C080001s000000n1s000009n1");
        due(1, x.about(3));
        due(1, x.about(4));
        due(0, x.about(2));
        due(7, x.about(8));
        due(1, x.about(7));
        x.ticks(9);
        due(1, x.about(3));
        x.set(0, 8);
        due(1, x.ticks(1));
        due(10, x.frame(0, 5));
    }

    private static void roundIsShortened() {
        FrameCard x = new FrameCard();
        x.ticks(3);
        x.set(2, 2);
        due(3, x.about(12));
        due(0, x.about(9));
        x.ticks(1);
        due(1, x.about(9));
        due(0, x.about(12));
        x.ticks(2);
        due(2, x.about(9));
    }

    private static void promise14() {
        FrameCard x = card("C240209s123456s123465s323405n1");
        index(() -> x.drop(3));
        index(() -> x.drop(-1));
        index(() -> x.drop(Integer.MAX_VALUE));
        state(x::undo);
        due(1, x.drop(1));
        due(1, x.about(8));
        due(7, x.drop(0));
        due(8, x.about(8));
        due(2, x.about(4));
        due(1, x.about(2));
        due(-1, x.frame(0, 3));
        index(() -> x.drop(1));
        due(1, x.drop(0));
        index(() -> x.drop(0));
        due(2, x.undo());
    }

    private static void promise15() {
        FrameCard x = card("C240209s000000s999999n1s000000s000000");
        argument(() -> x.format(7));
        argument(() -> x.format(49));
        argument(() -> x.format(-1));
        x.drop(0);
        due(3, x.format(48));
        aboutIs(x, 1, 4, 0, 0, 4, 0, 0, 48, 0, 0, 0, 48, 1, 2);
        due(0, x.format(8));
        due(8, x.about(7));
        due(4, x.about(4));
        x.shoot(0);
        due(1, x.waiting(0, 2));
        x.undo();
        x.undo();
        due(48, x.about(11));
        x.undo();
        due(24, x.about(11));
        due(7, x.about(8));
        due(2, x.about(3));
        due(0, x.setting(0));
        FrameCard kept = card("C240102s999999n1");
        kept.format(24);
        kept.ticks(1);
        due(0, kept.about(10));
    }

    private static void promise16() {
        FrameCard x = new FrameCard();
        int[][] wrong = {{-1, 2}, {3, 2}, {0, -1}, {0, 9}, {1, -1}, {1, 10}, {2, 0}, {2, 21},
            {Integer.MAX_VALUE, 1}, {0, Integer.MIN_VALUE}};
        for (int[] pair : wrong) {
            argument(() -> x.set(pair[0], pair[1]));
        }
        state(x::undo);
        due(2, x.set(0, 8));
        due(8, x.set(0, 0));
        due(0, x.setting(0));
        due(2, x.set(1, 9));
        due(9, x.set(1, 0));
        due(4, x.set(2, 20));
        due(20, x.set(2, 1));
        due(1, x.set(2, 1));
        due(6, x.undo());
        due(0, x.setting(1));
        due(1, x.setting(2));
    }

    private static void promise17() {
        FrameCard x = new FrameCard();
        state(x::undo);
        for (int i = 0; i < 20; i++) {
            x.set(1, i % 10);
        }
        for (int left = 13; left >= 0; left--) {
            due(left, x.undo());
            due((left + 5) % 10, x.setting(1));
        }
        state(x::undo);
        x.shoot(5);
        x.ticks(4);
        x.drop(0);
        x.format(30);
        due(3, x.undo());
        due(7, x.about(8));
        due(2, x.undo());
        due(5, x.frame(0, 1));
        due(1, x.undo());
        due(0, x.about(0));
        due(0, x.undo());
        due(0, x.about(1));
        x.shoot(9);
        due(7, x.waiting(0, 2));
        undoLeavesTextAndSlots();
        undoBringsBackAll();
    }

    private static void undoBringsBackAll() {
        FrameCard x = card("C081301s000000s999999s000000s999999s000000n9");
        int[] before = new int[14];
        for (int what = 0; what < 14; what++) {
            before[what] = x.about(what);
        }
        int why = x.broken(0, 1);
        int round = x.broken(9 < before[10] ? 9 : before[10] - 1, 0);
        x.set(2, 20);
        x.shoot(1);
        x.shoot(1);
        x.shoot(1);
        x.shoot(1);
        x.ticks(50);
        x.format(48);
        x.load();
        aboutIs(x, before);
        x.set(2, 1);
        x.set(1, 9);
        x.shoot(0);
        x.shoot(0);
        x.shoot(0);
        x.ticks(30);
        for (int k = 0; k < 6; k++) {
            x.undo();
        }
        state(x::undo);
        aboutIs(x, before);
        due(why, x.broken(0, 1));
        due(round, x.broken(9 < before[10] ? 9 : before[10] - 1, 0));
        due(1, x.setting(2));
        due(3, x.setting(1));
    }

    private static void undoLeavesTextAndSlots() {
        FrameCard x = text("C24");
        x.shoot(1);
        x.save(0);
        x.append('2');
        due(0, x.undo());
        due(4, x.clearText());
        due(0, x.restore(0));
        due(1, x.about(3));
        state(x::undo);
    }

    private static void promise18() {
        FrameCard x = new FrameCard();
        index(() -> x.storedIn(0));
        x.shoot(0);
        x.shoot(0);
        due(1, x.storedIn(0));
        due(1, x.storedIn(1));
        index(() -> x.storedIn(2));
        index(() -> x.storedIn(-1));
        FrameCard y = card("C080209s000000n1s999999s999998");
        due(-1, y.storedIn(0));
        due(-1, y.storedIn(1));
        y.set(0, 1);
        due(7, y.storedIn(0));
        due(8, y.storedIn(1));
        due(2, y.about(3));
        due(1, y.about(0));
        y.shoot(0);
        due(14, y.storedIn(2));
        due(0, y.about(4));
        slowest();
    }

    private static void slowest() {
        FrameCard x = card("C081209s000000s999999s000000s999999");
        x.ticks(1);
        due(6, x.storedIn(0));
        due(13, x.storedIn(1));
        due(20, x.storedIn(2));
        x.shoot(0);
        due(27, x.storedIn(3));
    }

    private static void promise19() {
        FrameCard x = new FrameCard();
        due(-1, x.least());
        x.shoot(0);
        due(-1, x.least());
        x.ticks(1);
        due(0, x.least());
        x.shoot(99);
        x.ticks(1);
        due(1, x.least());
        x.shoot(97);
        x.shoot(95);
        x.ticks(1);
        due(2, x.least());
        x.drop(2);
        due(3, x.least());
        x.drop(0);
        due(3, x.least());
        x.drop(1);
        due(1, x.least());
        due(1, x.about(2));
    }

    private static void promise20() {
        FrameCard x = new FrameCard();
        argument(() -> x.room(-1));
        argument(() -> x.room(55));
        due(24, x.room(0));
        due(24, x.room(8));
        due(12, x.room(9));
        due(8, x.room(18));
        due(8, x.room(26));
        due(6, x.room(27));
        due(4, x.room(45));
        due(4, x.room(53));
        due(3, x.room(54));
        x.shoot(1);
        x.ticks(1);
        due(17, x.room(0));
        x.drop(0);
        due(24, x.room(0));
        x.format(8);
        due(1, x.room(54));
    }

    private static void promise21() {
        FrameCard x = new FrameCard();
        due(0, x.leastPace());
        x.shoot(0);
        due(0, x.leastPace());
        FrameCard y = card("C080209s000000n1s999999");
        due(2, y.leastPace());
        due(0, y.setting(0));
        due(1, y.about(3));
        y.shoot(0);
        due(4, y.leastPace());
        y.shoot(999999);
        due(6, y.leastPace());
        y.shoot(0);
        due(7, y.leastPace());
        FrameCard z = card("C080209s000000s999999s000000s999999");
        due(6, z.leastPace());
        z.set(0, 8);
        due(6, z.leastPace());
        due(8, z.setting(0));
        FrameCard enough = card("C480209s000000s999999s000000s999999");
        due(0, enough.leastPace());
    }

    private static void promise22() {
        FrameCard x = card("C080209s000000n1");
        argument(() -> x.drops(-1, 1));
        argument(() -> x.drops(1000000, 1));
        argument(() -> x.drops(0, 0));
        argument(() -> x.drops(0, 51));
        due(0, x.drops(0, 50));
        due(1, x.drops(9, 1));
        due(1, x.drops(999999, 50));
        due(1, x.about(1));
        due(0, x.about(4));
        due(0, x.about(3));
        due(1, x.about(0));
        x.drop(0);
        due(0, x.drops(999999, 50));
        FrameCard y = card("C100209s000000n1s000002s000003s000005n1");
        due(2, y.drops(99, 1));
        due(3, y.drops(999, 1));
        due(1, y.drops(5, 1));
        due(1, y.drops(5, 9));
    }

    private static void promise23() {
        FrameCard x = card("C100202s000000n1s000002s000003s000005n1d03");
        argument(() -> x.runScript(0, 1000000L));
        argument(() -> x.runScript(3, 1000000L));
        argument(() -> x.runScript(1, -1L));
        argument(() -> x.runScript(2, Long.MIN_VALUE));
        argument(() -> x.runScript(1, 10000000L));
        argument(() -> x.runScript(2, 100000000000000L));
        argument(() -> x.runScript(2, Long.MAX_VALUE));
        int[] succeed = {1000000, 1999999, 2000001, 2000050, 3000000, 3000002, 4000000, 4000008, 4100009, 4200001,
            4200020, 5000000, 5000003, 6000001, 6000099, 7000000, 8000000, 9000000, 9000001, 9000002};
        for (int group : succeed) {
            tell(x.runScript(1, group) == -1, "runScript(1, " + group + ") fails");
        }
        int[] fail = {0, 1, 999999, 2000000, 2000051, 2000101, 2010001, 2100001, 3000003, 3000100, 3100000, 4000009,
            4010001, 4001001, 4100010, 4200000, 4200021, 4300001, 4900000, 5000004, 5000100, 5100000, 6000000,
            6000101, 6100001, 7000100, 7010000, 8000001, 8000100, 9000003, 9000004, 9010000, 9100000, 9999999};
        for (int group : fail) {
            tell(x.runScript(1, group) == 0, "runScript(1, " + group + ") succeeds");
            long second = 40000010000000L + group;
            tell(x.runScript(2, second) == 1, "runScript(2, " + second + ") succeeds or fails at 0");
            long first = group * 10000000L + 5000000L;
            tell(x.runScript(2, first) == 0, "runScript(2, " + first + ") succeeds or fails at 1");
        }
        due(3, x.about(2));
        due(4, x.about(1));
        due(2, x.about(0));
        scriptsOfTwo(x);
    }

    private static void scriptsOfTwo(FrameCard x) {
        due(-1, x.runScript(2, 30000009000001L));
        due(1, x.runScript(2, 30000009000000L));
        due(-1, x.runScript(2, 30000005000002L));
        due(1, x.runScript(2, 30000005000003L));
        due(-1, x.runScript(2, 30000006000002L));
        due(1, x.runScript(2, 30000006000001L));
        due(-1, x.runScript(2, 20000027000001L));
        due(1, x.runScript(2, 20000027000000L));
        due(1, x.runScript(2, 10000058000001L));
        x.set(0, 1);
        due(-1, x.runScript(2, 20000018000001L));
        due(1, x.runScript(2, 20000018000002L));
        due(0, x.runScript(2, 2000001L));
        frameNumberOfThreeDigits();
    }

    private static void frameNumberOfThreeDigits() {
        FrameCard x = new FrameCard();
        for (int i = 0; i < 123; i++) {
            x.shoot(0);
        }
        x.format(48);
        x.shoot(0);
        x.ticks(1);
        due(123, x.frame(0, 0));
        due(-1, x.runScript(1, 9000123L));
        due(0, x.runScript(1, 9000122L));
        due(0, x.runScript(1, 9000023L));
        due(0, x.runScript(1, 9001123L));
        due(0, x.runScript(1, 5000123L));
        due(0, x.runScript(1, 6000123L));
    }

    private static void promise24() {
        FrameCard x = new FrameCard();
        argument(() -> x.simulate(1L, 0));
        argument(() -> x.simulate(1L, 100));
        argument(() -> x.simulate(1L, -1));
        for (long seed : new long[] {0L, 1L, -1L, 99L, Long.MAX_VALUE, Long.MIN_VALUE}) {
            for (int m : new int[] {1, 2, 17, 50, 99}) {
                due(simulated(seed, m), x.simulate(seed, m));
            }
        }
        aboutIs(x, 0, 0, 0, 0, 0, 0, 0, 24, 0, 0, 0, 24, 0, 0);
        x.shoot(1);
        x.ticks(1);
        x.drop(0);
        for (int i = 0; i < 5; i++) {
            x.shoot(0);
        }
        due(4, x.simulate(3L, 1) % 100);
        due(1, x.about(4));
        due(1, x.about(5));
        FrameCard losing = card("C080209s000000n1s999999s000000s999999s000000s999999");
        due(1, losing.about(5));
        due(1, losing.about(2));
        int answer = losing.simulate(5L, 99);
        tell(answer / 100 % 100 > 20, "simulate tells no lost frames: " + answer);
        due(1, answer / 10000);
        due(0, answer % 100);
        due(answer, losing.simulate(5L, 99));
    }

    /** The same turns, told as calls on another new card. */
    private static int simulated(long seed, int m) {
        FrameCard y = new FrameCard();
        long x = seed;
        int p = 123456;
        for (int turn = 0; turn < m; turn++) {
            x = x * 6364136223846793005L + 1442695040888963407L;
            int r = (int) (x >>> 33);
            if (r % 4 == 0) {
                p = (r >> 6) % 1000000;
            }
            if (r % 4 == 1) {
                p = p - p % 10 + (r >> 6) % 10;
            }
            if ((r >> 2) % 4 != 3) {
                y.shoot(p);
            }
            y.ticks(1);
        }
        return 10000 * y.about(4) + 100 * y.about(5) + y.about(2);
    }

    private static void promise25() {
        FrameCard x = card("C240209s000000s999999n1");
        index(() -> x.save(-1));
        index(() -> x.save(2));
        index(() -> x.save(Integer.MAX_VALUE));
        due(2, x.save(0));
        state(x::undo);
        x.drop(0);
        due(1, x.save(1));
        due(0, x.undo());
        due(2, x.restore(0));
        due(1, x.restore(1));
        due(1, x.about(4));
        due(1, x.save(0));
        due(1, x.restore(0));
    }

    private static void promise26() {
        FrameCard x = new FrameCard();
        index(() -> x.restore(-1));
        index(() -> x.restore(2));
        state(() -> x.restore(0));
        state(() -> x.restore(1));
        x.shoot(5);
        x.save(1);
        state(() -> x.restore(0));
        x.ticks(9);
        x.set(0, 7);
        x.format(9);
        due(0, x.restore(1));
        state(x::undo);
        aboutIs(x, 0, 1, 0, 1, 0, 0, 0, 24, 0, 0, 0, 24, 0, 0);
        due(2, x.setting(0));
        x.ticks(1);
        due(1, x.about(2));
        due(0, x.restore(1));
        due(1, x.about(3));
        x.clearText();
        type(x, "C242204");
        due(0, x.restore(1));
        due(7, x.clearText());
    }

    public static void main(String[] args) {
        Runnable[] all = {PromisesTest::promise01, PromisesTest::promise02, PromisesTest::promise03,
            PromisesTest::promise04, PromisesTest::promise05, PromisesTest::promise06, PromisesTest::promise07,
            PromisesTest::promise08, PromisesTest::promise09, PromisesTest::promise10, PromisesTest::promise11,
            PromisesTest::promise12, PromisesTest::promise13, PromisesTest::promise14, PromisesTest::promise15,
            PromisesTest::promise16, PromisesTest::promise17, PromisesTest::promise18, PromisesTest::promise19,
            PromisesTest::promise20, PromisesTest::promise21, PromisesTest::promise22, PromisesTest::promise23,
            PromisesTest::promise24, PromisesTest::promise25, PromisesTest::promise26};
        for (int k = 0; k < all.length; k++) {
            try {
                all[k].run();
            } catch (RuntimeException e) {
                tell(false, "promise " + (k + 1) + ": " + e + " at " + e.getStackTrace()[0]);
            }
        }
        end("promises");
    }
}
