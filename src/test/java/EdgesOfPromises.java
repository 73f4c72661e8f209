import java.util.ArrayList;
import java.util.List;

/** The edges that the document names promise by promise. */
final class EdgesOfPromises extends Checks {
    // ---- text

    @Says(promise = 1, value = "Creates a card of 24 free blocks.")
    static void aNewCard() {
        FrameCard x = new FrameCard();
        aboutIs(x, 0, 0, 0, 0, 0, 0, 0, 24, 0, 0, 0, 24, 0, 0);
        for (int b = 0; b < 24; b++) {
            due(FrameCard.NONE, x.block(b));
        }
        index(() -> x.block(24));
        index(() -> x.frame(0, 0));
        index(() -> x.waiting(0, 0));
        index(() -> x.broken(0, 0));
        state(x::undo);
        state(() -> x.restore(0));
        state(() -> x.restore(1));
        due(0, x.clearText());
    }

    @Says(promise = 2, value = {"Appends a character to the text buffer.", "- `c`: character code, 0 to 255",
        "Throws `IllegalArgumentException` if c is out of range"})
    static void charactersFrom0To255() {
        FrameCard x = new FrameCard();
        argument(() -> x.append(-1));
        argument(() -> x.append(256));
        due(1, x.append(0));
        due(2, x.append(255));
        argument(() -> x.append(-1));
        due(2, x.clearText());
    }

    @Says(promise = 2, value = "Returns the new length of the text.")
    static void newLengthFrom1To120() {
        FrameCard x = new FrameCard();
        for (int length = 1; length <= 120; length++) {
            due(length, x.append('n'));
        }
    }

    @Says(promise = 2, value = "Throws `IllegalStateException` if the text already has 120 characters")
    static void the121stCharacter() {
        FrameCard x = text("C242204" + "n1".repeat(56));
        due(120, x.append('n'));
        state(() -> x.append('1'));
        state(() -> x.append(0));
        state(() -> x.append(255));
        argument(() -> x.append(256));
        due(120, x.clearText());
        due(1, x.append('C'));
    }

    @Says(promise = 3, value = {"Empties the text buffer.", "Returns the previous length of the text."})
    static void lengthsAheadOfClearing() {
        FrameCard x = new FrameCard();
        due(0, x.clearText());
        x.append('C');
        due(1, x.clearText());
        due(0, x.clearText());
        due(0, x.errorPosition());
        type(x, "n".repeat(120));
        due(120, x.clearText());
        type(x, "C242204");
        due(FrameCard.NONE, x.errorPosition());
    }

    @Says(promise = 4, value = {"Returns the error position of the text", "NONE if it is a card."})
    static void errorPositionsFrom0To120() {
        errorIs(0, "");
        errorIs(0, "x");
        errorIs(FrameCard.NONE, "C242204");
        errorIs(6, "C24220");
        errorIs(7, "C242204x");
        String full = "C242204s000000" + "n1".repeat(53);
        errorIs(FrameCard.NONE, full);
        errorIs(119, full.substring(0, 119) + "0");
        errorIs(119, full.substring(0, 119));
        errorIs(118, full.substring(0, 118) + "xx");
        errorIs(120, "C242204" + "n1".repeat(56) + "s");
    }

    @Says(promise = 4, value = "Checks the text.")
    static void theTextIsCheckedAsItIsNow() {
        FrameCard x = text("C24220");
        due(6, x.errorPosition());
        due(6, x.errorPosition());
        x.append('4');
        due(FrameCard.NONE, x.errorPosition());
        x.append('n');
        due(8, x.errorPosition());
        x.append('0');
        due(8, x.errorPosition());
        x.append('1');
        due(8, x.errorPosition());
    }

    // ---- load

    @Says(promise = 5, value = "Makes everything as in a new object, with the blocks and settings of the text, and does its commands.")
    static void loadMakesEverythingNew() {
        String card = "C300507s000000s000009n2d00";
        FrameCard used = usedMuch();
        type(used, card);
        used.load();
        Look.compare(card(card), used, "load()");
        FrameCard x = card(card);
        aboutIs(x, 2, 2, 1, 0, 1, 0, 0, 21, 7, 0, 0, 30, 2, 2);
        due(0, x.setting(0));
        due(5, x.setting(1));
        due(7, x.setting(2));
    }

    /** A card without text, with something of all in it, in the middle of a round that has something of all too. */
    private static FrameCard usedMuch() {
        FrameCard x = card("C481401s000000s999999s000000s999999s000000n9s000000");
        x.save(0);
        x.drop(0);
        x.set(2, 20);
        x.ticks(2);
        for (int k = 0; k < 6; k++) {
            x.shoot(k);
        }
        x.ticks(1);
        x.format(8);
        x.shoot(999999);
        x.ticks(1);
        x.shoot(0);
        x.ticks(8);
        x.shoot(0);
        aboutIs(x, 21, 15, 1, 1, 10, 3, 1, 1, 0, 9, 8, 8, 12, 7);
        x.clearText();
        return x;
    }

    @Says(promise = 5, value = "Makes everything as in a new object")
    static void loadBeginsANewRound() {
        FrameCard fewer = usedMuch();
        type(fewer, "C081101");
        fewer.load();
        fewer.ticks(1);
        aboutIs(fewer, 1, 0, 0, 0, 0, 0, 0, 8, 0, 1, 1, 8, 0, 0);
        due(0, fewer.broken(0, 0));
        due(1, fewer.broken(0, 1));
        due(0, fewer.broken(0, 2));
        FrameCard noneLost = usedMuch();
        type(noneLost, "C080301s000000s000000s999999");
        noneLost.load();
        noneLost.ticks(1);
        due(3, noneLost.broken(0, 1));
        due(2, noneLost.broken(0, 2));
        FrameCard empty = usedMuch();
        type(empty, "C482204");
        empty.load();
        Look.compare(card("C482204"), empty, "load() of a card without commands");
    }

    @Says(promise = 5, value = {"Behind it no state is remembered", "both save slots are empty."})
    static void loadForgetsStatesAndSlots() {
        FrameCard x = text("C242204s000000n1");
        x.shoot(0);
        x.save(0);
        x.save(1);
        x.load();
        state(x::undo);
        state(() -> x.restore(0));
        state(() -> x.restore(1));
        x.shoot(1);
        due(0, x.undo());
        state(x::undo);
        due(1, x.about(1));
    }

    @Says(promise = 5, value = "Keeps the text.")
    static void loadKeepsTheText() {
        FrameCard x = text("C242204d00");
        x.load();
        due(1, x.load());
        due(FrameCard.NONE, x.errorPosition());
        due(11, x.append('x'));
        due(10, x.errorPosition());
        due(11, x.clearText());
    }

    @Says(promise = 5, value = "Returns the number of commands that are left out.")
    static void noneOrSomeOrAllAreLeftOut() {
        due(0, text("C242204").load());
        due(0, text("C242204s000000n1d00").load());
        due(1, text("C242204s000000n1d01").load());
        due(1, text("C242204s000000d00n1").load());
        due(2, text("C242204d00d47").load());
        due(37, text("C242204" + "d00".repeat(37)).load());
    }

    @Says(promise = 5, value = "Throws `IllegalStateException` if the text is not a card")
    static void loadOfWhatIsNoCard() {
        for (String text : new String[] {"", "C", "C24220", "C242200", "C072204", "C492204", "C249204", "C242221",
            "C242204n", "C242204n0", "C242204s00000", "C242204d48", "C242204 "}) {
            FrameCard x = text(text);
            state(x::load);
            due(24, x.about(11));
        }
    }

    // ---- what there is

    @Says(promise = 6, value = {"- `what`: 0: the ticks so far", "1: the frames that came so far", "2: the kept frames",
        "3: the waiting ones", "4: those that were dropped so far", "5: those that were lost so far",
        "6: those that were stored late so far", "7: the free blocks", "8: the dirty blocks",
        "9: the rounds that ended so far", "10: the promises that were broken so far", "11: all blocks",
        "12: the ticks that have ended in this round", "13: the frames that were stored in this round so far"})
    static void allNumbersOfACard() {
        FrameCard x = card("C102203");
        aboutIs(x, 0, 0, 0, 0, 0, 0, 0, 10, 0, 0, 0, 10, 0, 0);
        for (int k = 0; k < 6; k++) {
            x.shoot(0);
        }
        aboutIs(x, 0, 6, 0, 4, 0, 2, 0, 10, 0, 0, 0, 10, 0, 0);
        x.ticks(1);
        aboutIs(x, 1, 6, 4, 0, 0, 2, 0, 0, 0, 0, 0, 10, 1, 4);
        x.drop(0);
        aboutIs(x, 1, 6, 3, 0, 1, 2, 0, 0, 7, 0, 0, 10, 1, 4);
        x.shoot(999999);
        x.ticks(1);
        aboutIs(x, 2, 7, 3, 1, 1, 2, 0, 2, 5, 0, 0, 10, 2, 4);
        x.ticks(1);
        aboutIs(x, 3, 7, 3, 1, 1, 2, 0, 4, 3, 1, 0, 10, 0, 0);
        x.ticks(2);
        aboutIs(x, 5, 7, 4, 0, 1, 2, 1, 0, 0, 1, 0, 10, 2, 1);
        x.ticks(1);
        aboutIs(x, 6, 7, 4, 0, 1, 2, 1, 0, 0, 2, 1, 10, 0, 0);
        x.shoot(999999);
        x.format(48);
        aboutIs(x, 6, 8, 0, 0, 6, 2, 1, 48, 0, 2, 1, 48, 0, 0);
    }

    @Says(promise = 6, value = {"Returns that number.", "Throws `IllegalArgumentException` if what is not 0 to 13"})
    static void aboutFrom0To13() {
        FrameCard x = new FrameCard();
        argument(() -> x.about(-1));
        due(0, x.about(0));
        x.ticks(1);
        x.shoot(0);
        x.ticks(1);
        due(2, x.about(0));
        due(1, x.about(13));
        argument(() -> x.about(14));
    }

    @Says(promise = 7, value = {"- `i`: which one, from 0, in their order",
        "Throws `IndexOutOfBoundsException` if there is no such kept frame"})
    static void keptFramesFrom0() {
        FrameCard x = new FrameCard();
        index(() -> x.frame(0, 0));
        x.shoot(5);
        index(() -> x.frame(0, 0));
        x.ticks(1);
        due(0, x.frame(0, 0));
        index(() -> x.frame(-1, 0));
        index(() -> x.frame(1, 0));
        x.shoot(5);
        x.ticks(1);
        due(1, x.frame(1, 0));
        index(() -> x.frame(2, 0));
        x.drop(0);
        due(1, x.frame(0, 0));
        index(() -> x.frame(1, 0));
    }

    @Says(promise = 7, value = "Throws `IndexOutOfBoundsException` if there is no such kept frame")
    static void asManyKeptFramesAsCanBe() {
        FrameCard x = card("C480001s000000n1");
        for (int k = 0; k < 41; k++) {
            x.shoot(0);
            x.ticks(1);
        }
        due(42, x.about(2));
        due(0, x.about(7));
        due(41, x.frame(41, 0));
        due(47, x.frame(41, 6));
        index(() -> x.frame(42, 0));
        x.set(0, 8);
        x.drop(0);
        x.shoot(0);
        x.ticks(1);
        for (int k = 0; k < 6; k++) {
            x.shoot(0);
            x.ticks(1);
        }
        due(48, x.about(2));
        due(48, x.frame(47, 0));
        index(() -> x.frame(48, 0));
        x.shoot(0);
        x.ticks(1);
        due(47, x.about(2));
        due(1, x.frame(0, 0));
        due(3, x.frame(1, 0));
        x.ticks(1);
        due(49, x.frame(47, 0));
        due(49, x.block(x.frame(47, 6)));
    }

    @Says(promise = 7, value = {"Returns that number.", "Throws `IllegalArgumentException` if what is not 0 to 6"})
    static void frameFrom0To6() {
        FrameCard x = card("C240001s123456n1");
        argument(() -> x.frame(0, -1));
        due(0, x.frame(0, 0));
        due(0, x.frame(0, 6));
        argument(() -> x.frame(0, 7));
        index(() -> x.frame(1, 7));
    }

    @Says(promise = 7, value = {"- `what`: 0: its number", "1: its picture", "2: its size", "3: its change, NONE of the first one",
        "6: its lowest block"})
    static void allNumbersOfAFrame() {
        FrameCard x = card("C240001s123456s123465s999999n1");
        keptAre(x, 0, 0, 1, 2);
        keptAre(x, 1, 123456, 123465, 999999);
        keptAre(x, 2, 7, 1, 4);
        keptAre(x, 3, FrameCard.NONE, 2, 33);
        keptAre(x, 6, 0, 7, 8);
    }

    @Says(promise = 7, value = {"4: in which tick it came (0 ahead of the end of the first tick, and so on)",
        "5: how many ticks had ended between that and its storing"})
    static void whenAFrameCameAndWasStored() {
        FrameCard x = new FrameCard();
        x.shoot(0);
        x.ticks(1);
        x.shoot(0);
        x.ticks(3);
        x.shoot(0);
        x.ticks(1);
        keptAre(x, 4, 0, 1, 4);
        keptAre(x, 5, 0, 0, 0);
        FrameCard late = card("C080001s000000n2d00s999999n1");
        late.set(0, 2);
        late.ticks(2);
        due(1, late.about(3));
        late.ticks(1);
        keptAre(late, 4, 2);
        keptAre(late, 5, 3);
    }

    @Says(promise = 8, value = {"- `i`: which one, from 0, the first one first",
        "Throws `IndexOutOfBoundsException` if there is no such waiting frame"})
    static void waitingFramesFrom0() {
        FrameCard x = new FrameCard();
        index(() -> x.waiting(0, 0));
        for (int k = 0; k < 4; k++) {
            x.shoot(k);
            int last = k;
            due(last, x.waiting(last, 1));
            index(() -> x.waiting(last + 1, 0));
        }
        x.shoot(9);
        index(() -> x.waiting(4, 0));
        index(() -> x.waiting(-1, 0));
        due(0, x.waiting(0, 1));
        x.ticks(1);
        index(() -> x.waiting(0, 0));
    }

    @Says(promise = 8, value = {"- `what`: 0: its number", "1: its picture", "2: its size", "3: in which tick it came"})
    static void allNumbersOfAWaitingFrame() {
        FrameCard x = card("C080001s000000n1s999999n1s000999n1");
        int[][] want = {{1, 999999, 7, 1}, {2, 999, 4, 2}};
        for (int i = 0; i < 2; i++) {
            for (int what = 0; what < 4; what++) {
                due(want[i][what], x.waiting(i, what));
            }
        }
        FrameCard atFirst = card("C080001s000009");
        due(0, atFirst.waiting(0, 3));
    }

    @Says(promise = 8, value = {"Returns that number.", "Throws `IllegalArgumentException` if what is not 0 to 3"})
    static void waitingFrom0To3() {
        FrameCard x = card("C240001n1s123456");
        argument(() -> x.waiting(0, -1));
        due(0, x.waiting(0, 0));
        due(1, x.waiting(0, 3));
        argument(() -> x.waiting(0, 4));
        index(() -> x.waiting(1, 4));
    }

    @Says(promise = 9, value = {"Returns the number of the frame that uses it", "NONE if it is free", "NONE - 1 if it is dirty."})
    static void whatABlockHolds() {
        FrameCard x = card("C100001s000000n1s000000n1d00");
        due(-2, x.block(0));
        due(-2, x.block(6));
        due(1, x.block(7));
        due(-1, x.block(8));
        due(-1, x.block(9));
        FrameCard y = card("C080001s000000n1");
        due(0, y.block(0));
        due(0, y.block(6));
        due(-1, y.block(7));
    }

    @Says(promise = 9, value = {"- `b`: block", "Throws `IndexOutOfBoundsException` if there is no such block"})
    static void blocksFrom0ToTheLast() {
        for (int count : new int[] {8, 9, 24, 47, 48}) {
            FrameCard x = new FrameCard();
            x.format(count);
            index(() -> x.block(-1));
            due(-1, x.block(0));
            due(-1, x.block(count - 1));
            index(() -> x.block(count));
        }
    }

    @Says(promise = 10, value = {"0 the last one, 1 the one before it, and so on up to 9, if there were so many",
        "Throws `IndexOutOfBoundsException` if there is no such one"})
    static void brokenPromisesFrom0To9() {
        FrameCard x = card("C240101");
        index(() -> x.broken(0, 0));
        for (int count = 1; count <= 12; count++) {
            x.ticks(1);
            int told = Math.min(count, 10);
            due(count, x.about(10));
            for (int k = 0; k < told; k++) {
                due(count - 1 - k, x.broken(k, 0));
            }
            index(() -> x.broken(told, 0));
            index(() -> x.broken(-1, 0));
        }
    }

    @Says(promise = 10, value = {"0: the number of its round, from 0", "1: why", "2: how many frames were stored in it"})
    static void allNumbersOfABrokenPromise() {
        FrameCard x = card("C480201");
        x.shoot(0);
        x.ticks(1);
        x.shoot(0);
        x.shoot(0);
        x.ticks(1);
        x.ticks(1);
        x.set(1, 9);
        for (int k = 0; k < 9; k++) {
            x.shoot(0);
        }
        x.ticks(1);
        int[][] want = {{3, 2, 4}, {2, 1, 0}, {0, 1, 1}};
        for (int k = 0; k < 3; k++) {
            for (int what = 0; what < 3; what++) {
                due(want[k][what], x.broken(k, what));
            }
        }
        index(() -> x.broken(3, 0));
    }

    @Says(promise = 10, value = {"Returns that number.", "Throws `IllegalArgumentException` if what is not 0 to 2"})
    static void brokenFrom0To2() {
        FrameCard x = card("C240101n1");
        argument(() -> x.broken(0, -1));
        due(0, x.broken(0, 0));
        due(0, x.broken(0, 2));
        argument(() -> x.broken(0, 3));
        index(() -> x.broken(1, 3));
    }

    @Says(promise = 11, value = {"- `what`: 0 to 2", "Returns that setting.",
        "Throws `IllegalArgumentException` if what is out of range"})
    static void settingFrom0To2() {
        FrameCard x = card("C243517");
        argument(() -> x.setting(-1));
        due(3, x.setting(0));
        due(5, x.setting(1));
        due(17, x.setting(2));
        argument(() -> x.setting(3));
    }

    // ---- actions

    @Says(promise = 12, value = {"A picture comes.", "- `picture`: 0 to 999999",
        "Throws `IllegalArgumentException` if picture is out of range"})
    static void shootFrom0To999999() {
        FrameCard x = new FrameCard();
        argument(() -> x.shoot(-1));
        argument(() -> x.shoot(1000000));
        due(0, x.about(1));
        due(0, x.shoot(0));
        due(1, x.shoot(999999));
        due(2, x.about(3));
    }

    @Says(promise = 12, value = {"Returns the number of its frame", "NONE if it is lost (it has a number all the same)."})
    static void aLostFrameHasANumberToo() {
        FrameCard x = card("C080001s000000s999999s000000s999999");
        due(-1, x.shoot(0));
        due(-1, x.shoot(0));
        due(6, x.about(1));
        x.ticks(1);
        due(6, x.shoot(0));
        due(6, x.waiting(3, 0));
        due(-1, x.shoot(0));
        due(8, x.about(1));
    }

    @Says(promise = 13, value = {"Lets ticks go by.", "- `n`: 1 to 50", "Throws `IllegalArgumentException` if n is out of range"})
    static void ticksFrom1To50() {
        FrameCard x = new FrameCard();
        argument(() -> x.ticks(0));
        argument(() -> x.ticks(-1));
        argument(() -> x.ticks(51));
        due(0, x.about(0));
        x.ticks(1);
        due(1, x.about(0));
        x.ticks(50);
        due(51, x.about(0));
    }

    @Says(promise = 13, value = "Returns how many frames are stored in them.")
    static void storedInSomeTicks() {
        FrameCard x = card("C087001s000000s999999s000000s999999");
        due(1, x.ticks(1));
        due(0, x.about(2));
        due(3, x.ticks(50));
        due(1, x.about(2));
        due(0, x.ticks(50));
        due(4, card("C480001s000000s999999s000000s999999").ticks(1));
    }

    @Says(promise = 14, value = {"Drops a kept frame.", "- `i`: which one", "Returns how many blocks become dirty."})
    static void sevenBlocksOrOneBecomeDirty() {
        FrameCard x = card("C240001s000000s000000s999999s999990n1");
        int[][] dropped = {{3, 2}, {0, 7}, {1, 7}, {0, 1}};
        int dirty = 0;
        for (int[] drop : dropped) {
            due(drop[1], x.drop(drop[0]));
            dirty += drop[1];
            due(dirty, x.about(8));
        }
        due(4, x.about(4));
    }

    @Says(promise = 14, value = "Throws `IndexOutOfBoundsException` if there is no such kept frame")
    static void dropOfTheLastAndBehindIt() {
        FrameCard x = new FrameCard();
        index(() -> x.drop(0));
        x.shoot(0);
        x.shoot(0);
        index(() -> x.drop(0));
        x.ticks(1);
        index(() -> x.drop(2));
        index(() -> x.drop(-1));
        due(1, x.drop(1));
        index(() -> x.drop(1));
        due(7, x.drop(0));
        index(() -> x.drop(0));
    }

    @Says(promise = 15, value = {"- `blocks`: 8 to 48", "Throws `IllegalArgumentException` if blocks is out of range"})
    static void formatFrom8To48() {
        FrameCard x = new FrameCard();
        argument(() -> x.format(7));
        argument(() -> x.format(49));
        argument(() -> x.format(0));
        due(24, x.about(11));
        x.format(8);
        due(8, x.about(11));
        due(8, x.about(7));
        x.format(48);
        due(48, x.about(11));
        due(48, x.about(7));
    }

    @Says(promise = 15, value = {"Formats the card: kept and waiting frames are dropped (and count so), all blocks are free.",
        "Returns how many frames are dropped."})
    static void formatOfAnEmptyAndAFullCard() {
        FrameCard x = new FrameCard();
        due(0, x.format(10));
        for (int k = 0; k < 4; k++) {
            x.shoot(0);
        }
        x.ticks(1);
        x.drop(0);
        for (int k = 0; k < 5; k++) {
            x.shoot(999999);
        }
        due(1, x.about(5));
        due(7, x.format(10));
        aboutIs(x, 1, 9, 0, 0, 8, 1, 0, 10, 0, 0, 0, 10, 1, 4);
        blocksAre(x, -1, -1, -1, -1, -1, -1, -1, -1, -1, -1);
        index(() -> x.frame(0, 0));
        index(() -> x.waiting(0, 0));
        due(0, x.format(10));
        due(8, x.about(4));
    }

    @Says(promise = 15, value = "all blocks are free.")
    static void noFrameComesBackBehindFormat() {
        FrameCard x = card("C480001s000000s999999s000000s999999n1s000000");
        due(5, x.format(8));
        due(0, x.ticks(50));
        x.shoot(0);
        due(1, x.ticks(1));
        keptAre(x, 0, 5);
        keptAre(x, 6, 0);
        keptAre(x, 3, -1);
        blocksAre(x, 5, -1, -1, -1, -1, -1, -1, -1);
    }

    @Says(promise = 16, value = {"Changes a setting.", "- `what`: 0 to 2", "- `v`: the new value, in its range",
        "Throws `IllegalArgumentException` if what or v is out of range"})
    static void setFrom0To2() {
        FrameCard x = new FrameCard();
        int[][] wrong = {{-1, 2}, {3, 2}, {-1, 99}, {0, -1}, {0, 9}, {1, -1}, {1, 10}, {2, 0}, {2, 21}, {2, -1}};
        for (int[] pair : wrong) {
            argument(() -> x.set(pair[0], pair[1]));
        }
        int[][] edges = {{0, 0}, {0, 8}, {1, 0}, {1, 9}, {2, 1}, {2, 20}};
        for (int[] pair : edges) {
            x.set(pair[0], pair[1]);
            due(pair[1], x.setting(pair[0]));
        }
    }

    @Says(promise = 16, value = "Returns the previous one.")
    static void setReturnsThePrevious() {
        FrameCard x = new FrameCard();
        due(2, x.set(0, 7));
        due(7, x.set(0, 7));
        due(7, x.set(0, 0));
        due(2, x.set(1, 0));
        due(0, x.set(1, 9));
        due(4, x.set(2, 1));
        due(1, x.set(2, 20));
    }

    @Says(promise = 17, value = {"Takes back the last action that is remembered.", "Returns how many states are still remembered.",
        "Throws `IllegalStateException` if none is remembered"})
    static void undoFrom13To0() {
        FrameCard x = new FrameCard();
        state(x::undo);
        x.set(1, 5);
        due(0, x.undo());
        due(2, x.setting(1));
        state(x::undo);
        for (int k = 0; k < 15; k++) {
            x.ticks(1);
        }
        for (int left = 13; left >= 0; left--) {
            due(left, x.undo());
            due(left + 1, x.about(0));
        }
        state(x::undo);
        due(1, x.about(0));
    }

    // ---- what would be

    @Says(promise = 18, value = {"- `i`: which one", "Throws `IndexOutOfBoundsException` if there is no such waiting frame"})
    static void storedInOfTheLastAndBehindIt() {
        FrameCard x = new FrameCard();
        index(() -> x.storedIn(0));
        for (int k = 0; k < 4; k++) {
            x.shoot(0);
            int last = k;
            due(1, x.storedIn(last));
            index(() -> x.storedIn(last + 1));
        }
        index(() -> x.storedIn(-1));
        x.shoot(0);
        index(() -> x.storedIn(4));
        x.ticks(1);
        index(() -> x.storedIn(0));
    }

    @Says(promise = 18, value = {"Tells when a waiting frame is stored, if only ticks go by.", "Returns in how many ticks, 1 to 99"})
    static void storedInOneTickOrMany() {
        FrameCard x = card("C081001s000000n1s000000n1s999999s000000s999999s000000");
        int[] ticks = {8, 15, 22, 29};
        for (int i = 0; i < 4; i++) {
            due(ticks[i], x.storedIn(i));
        }
        FrameCard done = card("C081001s000000n1s000000n1s999999s000000s999999s000000n9n9n9n1");
        due(1, done.storedIn(0));
        due(1, done.ticks(1));
        due(0, done.about(3));
    }

    @Says(promise = 18, value = "NONE if it is not.")
    static void neverStoredWithoutCleaning() {
        FrameCard x = card("C080001s000000s999999s999999");
        due(1, x.storedIn(0));
        due(-1, x.storedIn(1));
        due(-1, x.storedIn(2));
        x.set(0, 1);
        due(7, x.storedIn(1));
        due(8, x.storedIn(2));
    }

    @Says(promise = 19, value = {"Tells which kept frame would be dropped first, if one had to be.", "Returns its number",
        "NONE if none is kept."})
    static void leastOfNoneAndOneAndMore() {
        FrameCard x = card("C240001");
        due(-1, x.least());
        x.shoot(0);
        due(-1, x.least());
        x.ticks(1);
        due(0, x.least());
        x.shoot(999999);
        x.ticks(1);
        due(1, x.least());
        x.shoot(999996);
        x.shoot(999999);
        x.ticks(1);
        due(2, x.least());
        x.shoot(999999);
        x.ticks(1);
        due(4, x.least());
        x.drop(4);
        x.drop(1);
        due(3, x.least());
        x.drop(2);
        x.drop(1);
        due(0, x.least());
        x.drop(0);
        due(-1, x.least());
    }

    @Says(promise = 19, value = "Tells which kept frame would be dropped first, if one had to be.")
    static void leastIsTheOneThatATickDrops() {
        FrameCard x = card("C110001s000000n1s000003s000004s000005s000007n1s000007");
        int number = x.least();
        due(2, number);
        due(-1, x.runScript(1, 9000000L + number));
        due(1, x.runScript(2, 20000019000000L + number));
    }

    @Says(promise = 20, value = {"- `change`: 0 to 54", "Throws `IllegalArgumentException` if change is out of range"})
    static void roomFrom0To54() {
        FrameCard x = new FrameCard();
        argument(() -> x.room(-1));
        due(24, x.room(0));
        due(3, x.room(54));
        argument(() -> x.room(55));
    }

    @Says(promise = 20, value = {"Tells how much room there would be.",
        "Returns how many frames, all with the size of a picture that differs so much from the one ahead of it, "
            + "could be stored in the free and dirty blocks together."})
    static void roomForEachSize() {
        FrameCard x = new FrameCard();
        x.format(48);
        int[][] edges = {{0, 48}, {8, 48}, {9, 24}, {17, 24}, {18, 16}, {26, 16}, {27, 12}, {35, 12}, {36, 9}, {44, 9},
            {45, 8}, {53, 8}, {54, 6}};
        for (int[] edge : edges) {
            due(edge[1], x.room(edge[0]));
        }
        FrameCard y = card("C080001s000000n1s000000");
        due(1, y.room(8));
        due(0, y.room(9));
        y.ticks(1);
        due(0, y.room(0));
        y.drop(0);
        due(7, y.room(0));
        due(1, y.room(54));
        y.drop(0);
        due(8, y.room(0));
        due(1, y.room(54));
        due(1, y.room(36));
        due(2, y.room(35));
    }

    @Says(promise = 21, value = "(0 if none waits)")
    static void leastPaceOfNone() {
        FrameCard x = new FrameCard();
        due(0, x.leastPace());
        FrameCard full = card("C088001s000000n1s000000n1");
        due(0, full.leastPace());
    }

    @Says(promise = 21, value = {"Tells how much cleaning would do.",
        "Returns the smallest pace with which all waiting frames would be stored in the next 5 ticks, if only ticks went by"})
    static void leastPaceForFiveTicks() {
        FrameCard inFive = card("C080001s000000n1d00s099999");
        due(6, inFive.waiting(0, 2));
        due(1, inFive.leastPace());
        FrameCard inSix = card("C080001s000000n1d00s999999");
        due(7, inSix.waiting(0, 2));
        due(2, inSix.leastPace());
        FrameCard atOnce = card("C080001s000000n1s000000");
        due(0, atOnce.leastPace());
        due(0, atOnce.setting(0));
    }

    @Says(promise = 21, value = {"all waiting frames would be stored in the next 5 ticks", "NONE if there is none."})
    static void leastPaceForAllThatWait() {
        FrameCard x = card("C080001s000000n1s000000n1s999999s000000s999999s000000");
        due(7, x.leastPace());
        FrameCard three = card("C080001s000000n1s000000n1s999999s000000s999999");
        due(7, three.leastPace());
        FrameCard two = card("C080001s000000n1s000000n1s999999s000000");
        due(4, two.leastPace());
        FrameCard large = card("C480001s000000s999999s000000s999999n1s000000s999999s000000s999999n1");
        due(2, large.about(3));
        due(2, large.leastPace());
    }

    @Says(promise = 22, value = {"- `picture`: 0 to 999999", "- `n`: 1 to 50",
        "Throws `IllegalArgumentException` if picture or n is out of range"})
    static void dropsOfPicturesAndTicks() {
        FrameCard x = card("C080001s000000n1");
        argument(() -> x.drops(-1, 1));
        argument(() -> x.drops(1000000, 1));
        argument(() -> x.drops(0, 0));
        argument(() -> x.drops(0, 51));
        argument(() -> x.drops(-1, 0));
        due(0, x.drops(0, 1));
        due(0, x.drops(0, 50));
        due(1, x.drops(999999, 1));
        due(1, x.drops(999999, 50));
    }

    @Says(promise = 22, value = {"Tells how many frames would be dropped.",
        "Returns how many, if this picture came now, and then n ticks went by."})
    static void dropsInSoManyTicks() {
        FrameCard x = card("C088001s000000n1s999999");
        due(1, x.drops(0, 1));
        due(2, x.drops(0, 2));
        due(2, x.drops(0, 3));
        due(1, x.drops(999999, 3));
        x.drop(0);
        due(0, x.drops(999999, 3));
        due(1, x.drops(0, 3));
        FrameCard four = card("C088001s000000n1s999999s000000s999999s000000");
        due(4, four.drops(999999, 50));
        due(0, four.about(4));
    }

    // ---- scripts, simulations

    /** Kept: 0, 1 and 2; dropped: one; broken: one; free: 15 of 24; dirty: none. */
    private static FrameCard forScripts() {
        FrameCard x = card("C248202s000000s000000s000000s000000n1d03n3");
        aboutIs(x, 4, 4, 3, 0, 1, 0, 0, 15, 0, 2, 1, 24, 0, 0);
        return x;
    }

    private static void succeed(long... groups) {
        FrameCard x = forScripts();
        for (long group : groups) {
            int got = x.runScript(1, group);
            tell(got == -1, "runScript(1, " + group + ") answered " + got);
        }
    }

    private static void fail(long... groups) {
        FrameCard x = forScripts();
        for (long group : groups) {
            int got = x.runScript(1, group);
            tell(got == 0, "runScript(1, " + group + ") answered " + got);
        }
    }

    @Says(promise = 23, value = {"A script has 1 to 2 commands", "- `n`: number of commands, 1 or 2"})
    static void scriptsOfOneOrTwoCommands() {
        FrameCard x = forScripts();
        argument(() -> x.runScript(0, 0L));
        argument(() -> x.runScript(0, 5000000L));
        argument(() -> x.runScript(3, 50000005000000L));
        argument(() -> x.runScript(-1, 5000000L));
        due(-1, x.runScript(1, 5000000L));
        due(-1, x.runScript(2, 50000005000000L));
    }

    @Says(promise = 23, value = {"- `script`: the commands, a number of at most 7 * n digits (0 or more)",
        "Throws `IllegalArgumentException` if n is out of range, or if script is negative or has more than 7 * n digits"})
    static void digitsOfAScript() {
        FrameCard x = forScripts();
        argument(() -> x.runScript(1, -1L));
        argument(() -> x.runScript(2, -1L));
        argument(() -> x.runScript(1, Long.MIN_VALUE));
        argument(() -> x.runScript(2, Long.MIN_VALUE));
        argument(() -> x.runScript(2, -9999999L));
        argument(() -> x.runScript(2, -10000000L));
        argument(() -> x.runScript(1, -9999999L));
        due(0, x.runScript(1, 0L));
        due(0, x.runScript(1, 9999999L));
        argument(() -> x.runScript(1, 10000000L));
        argument(() -> x.runScript(1, 15000000L));
        argument(() -> x.runScript(1, Long.MAX_VALUE));
        due(0, x.runScript(2, 0L));
        due(0, x.runScript(2, 10000000L));
        due(0, x.runScript(2, 99999999999999L));
        argument(() -> x.runScript(2, 100000000000000L));
        argument(() -> x.runScript(2, 150000005000000L));
        argument(() -> x.runScript(2, Long.MAX_VALUE));
    }

    @Says(promise = 23, value = "each is a group of seven decimal digits d1 to d7, and the first command is the highest group"
            + " of the number (with zeros before it, if it has fewer digits).")
    static void theHighestGroupIsTheFirst() {
        FrameCard x = forScripts();
        due(0, x.runScript(2, 90000035000000L));
        due(1, x.runScript(2, 50000009000003L));
        due(0, x.runScript(2, 5000000L));
        due(0, x.runScript(2, 95000000L));
        due(0, x.runScript(1, 500000L));
        due(-1, x.runScript(2, 10000002000001L));
    }

    @Says(promise = 23, value = {"Runs a script on a copy of the state.", "Returns the index, from 0, of the first command that fails",
        "NONE if all succeed."})
    static void theSecondCommandIsRunBehindTheFirst() {
        FrameCard x = forScripts();
        due(-1, x.runScript(2, 50000035000003L));
        due(0, x.runScript(2, 50000045000003L));
        due(1, x.runScript(2, 50000035000004L));
        due(0, x.runScript(2, 50000045000004L));
        due(1, x.runScript(2, 30000005000003L));
        due(-1, x.runScript(2, 30000005000002L));
        due(3, x.about(2));
        due(-1, x.runScript(1, 5000003L));
    }

    @Says(promise = 23, value = "1 p p p p p p: shoot(pppppp).")
    static void scriptShoots() {
        succeed(1000000L, 1000001L, 1123456L, 1999999L);
        FrameCard x = card("C080001s000000n1");
        due(-1, x.runScript(2, 10000085000001L));
        due(-1, x.runScript(2, 12345672000001L));
        FrameCard four = card("C080001s000000s000000s000000s000000");
        due(-1, four.runScript(1, 1000000L));
        due(-1, four.runScript(2, 19999991999999L));
    }

    @Says(promise = 23, value = "2 0 0 0 0 n n: ticks(nn).")
    static void scriptLetsTicksGoBy() {
        succeed(2000001L, 2000010L, 2000049L, 2000050L);
        fail(2000000L, 2000051L, 2000099L, 2000100L, 2000101L, 2001001L, 2010001L, 2100001L, 2900050L);
        FrameCard x = card("C240001");
        due(-1, x.runScript(2, 10000002000001L));
        x.set(1, 1);
        due(-1, x.runScript(2, 20000097000009L));
        due(1, x.runScript(2, 20000107000009L));
        due(-1, x.runScript(2, 20000507000050L));
        due(1, x.runScript(2, 20000507000049L));
    }

    @Says(promise = 23, value = "3 0 0 0 0 i i: drop(ii).")
    static void scriptDrops() {
        succeed(3000000L, 3000002L);
        fail(3000003L, 3000099L, 3000100L, 3000102L, 3001000L, 3010000L, 3100000L, 3900002L);
        FrameCard x = forScripts();
        due(1, x.runScript(2, 30000019000001L));
        due(-1, x.runScript(2, 30000019000002L));
        due(1, x.runScript(2, 30000023000002L));
    }

    @Says(promise = 23, value = "4 w 0 0 0 v v: set(w, vv).")
    static void scriptSets() {
        succeed(4000000L, 4000008L, 4100000L, 4100009L, 4200001L, 4200020L);
        fail(4000009L, 4000010L, 4000100L, 4001001L, 4010001L, 4100010L, 4100101L, 4101001L, 4110001L, 4200000L, 4200021L,
            4200101L, 4201001L, 4210001L, 4300001L, 4900001L);
        FrameCard x = card("C080101s000000n1d00");
        due(-1, x.runScript(2, 40000058000001L));
        due(1, x.runScript(2, 40000058000006L));
    }

    @Says(promise = 23, value = "5 0 0 0 0 n n: succeeds if at least nn frames are kept.")
    static void scriptAsksForKeptFrames() {
        succeed(5000000L, 5000002L, 5000003L);
        fail(5000004L, 5000099L, 5000100L, 5000103L, 5001000L, 5010000L, 5100000L);
        due(0, new FrameCard().runScript(1, 5000001L));
        due(-1, new FrameCard().runScript(1, 5000000L));
    }

    @Says(promise = 23, value = "6 0 0 0 0 n n: succeeds if at most nn frames were dropped so far.")
    static void scriptAsksForDroppedFrames() {
        succeed(6000001L, 6000002L, 6000099L);
        fail(6000000L, 6000100L, 6000101L, 6001001L, 6010001L, 6100001L);
        due(-1, new FrameCard().runScript(1, 6000000L));
        due(1, forScripts().runScript(2, 30000006000001L));
        due(-1, forScripts().runScript(2, 30000006000002L));
    }

    @Says(promise = 23, value = "7 0 0 0 0 n n: succeeds if at most nn promises were broken so far.")
    static void scriptAsksForBrokenPromises() {
        succeed(7000001L, 7000002L, 7000099L);
        fail(7000000L, 7000100L, 7000101L, 7001001L, 7010001L, 7100001L);
        due(-1, new FrameCard().runScript(1, 7000000L));
        due(-1, new FrameCard().runScript(2, 20000047000001L));
        due(1, new FrameCard().runScript(2, 20000047000000L));
        due(-1, new FrameCard().runScript(2, 20000037000000L));
    }

    @Says(promise = 23, value = "8 0 0 0 0 n n: succeeds if at least nn blocks are free.")
    static void scriptAsksForFreeBlocks() {
        succeed(8000000L, 8000014L, 8000015L);
        fail(8000016L, 8000099L, 8000100L, 8000115L, 8001001L, 8010001L, 8100001L);
        due(1, forScripts().runScript(2, 30000008000016L));
        due(-1, forScripts().runScript(2, 30000008000015L));
        FrameCard full = card("C080001s000000n1s000000n1");
        due(-1, full.runScript(1, 8000000L));
        due(0, full.runScript(1, 8000001L));
    }

    @Says(promise = 23, value = "9 0 0 x x x x: succeeds if the frame with the number xxxx is kept.")
    static void scriptAsksForAFrame() {
        succeed(9000000L, 9000001L, 9000002L);
        fail(9000003L, 9000004L, 9000010L, 9001000L, 9002000L, 9009999L, 9010000L, 9010001L, 9100000L, 9900000L);
        FrameCard waits = card("C240001s000000");
        due(0, waits.runScript(1, 9000000L));
        due(-1, waits.runScript(2, 20000019000000L));
        FrameCard later = new FrameCard();
        for (int k = 0; k < 105; k++) {
            later.shoot(0);
        }
        later.format(8);
        later.shoot(0);
        later.ticks(1);
        due(-1, later.runScript(1, 9000105L));
        due(0, later.runScript(1, 9000005L));
        due(0, later.runScript(1, 9001105L));
    }

    @Says(promise = 23, value = "The commands 1 to 4 fail if the method would throw an exception; so does any other group"
            + " (also one with another digit where a 0 is written).")
    static void anyOtherGroupFails() {
        fail(0L, 1L, 10L, 123456L, 999999L);
        for (long command = 2; command <= 9; command++) {
            for (long place = 100; place <= 100000; place *= 10) {
                boolean taken = command == 4 && place == 100000 || command == 9 && place <= 1000;
                for (long digit = 1; digit <= 9 && !taken; digit += 4) {
                    long least = command == 2 || command == 4 || command == 6 || command == 7 ? 1 : 0;
                    fail(command * 1000000L + digit * place + least);
                }
            }
        }
    }

    @Says(promise = 23, value = "pppppp, nn, ii, vv and xxxx are decimal numbers.")
    static void numbersOfAScriptAreDecimal() {
        FrameCard x = card("C480001s000000s000000s000000s000000n1s000000s000000s000000s000000n1"
                + "s000000s000000s000000n1");
        due(-1, x.runScript(1, 5000011L));
        due(0, x.runScript(1, 5000012L));
        due(-1, x.runScript(1, 3000010L));
        due(0, x.runScript(1, 3000011L));
        due(1, x.runScript(2, 30000109000010L));
        due(-1, x.runScript(2, 42000129000010L));
        due(-1, x.runScript(1, 8000031L));
        due(0, x.runScript(1, 8000032L));
    }

    /** The frames that come in so many turns, each with its picture; -1 for a turn in which none comes. */
    private static List<Integer> pictures(long seed, int turns) {
        List<Integer> all = new ArrayList<>();
        long x = seed;
        int p = 123456;
        for (int turn = 0; turn < turns; turn++) {
            x = 6364136223846793005L * x + 1442695040888963407L;
            long r = x >>> 33;
            if (r % 4 == 0) {
                p = (int) (r / 64 % 1000000);
            } else if (r % 4 == 1) {
                p = (int) (p - p % 10 + r / 64 % 10);
            }
            all.add(r / 4 % 4 == 3 ? -1 : p);
        }
        return all;
    }

    /** The same turns as calls on another card, which must be new or made in the same way. */
    private static int turnsByCalls(FrameCard y, long seed, int turns) {
        int dropped = y.about(4);
        int lost = y.about(5);
        for (int picture : pictures(seed, turns)) {
            if (picture != -1) {
                y.shoot(picture);
            }
            y.ticks(1);
        }
        return 10000 * (y.about(4) - dropped) + 100 * (y.about(5) - lost) + y.about(2);
    }

    @Says(promise = 24, value = {"- `m`: number of turns, 1 to 99", "Throws `IllegalArgumentException` if m is out of range"})
    static void turnsFrom1To99() {
        FrameCard x = new FrameCard();
        argument(() -> x.simulate(0L, 0));
        argument(() -> x.simulate(0L, -1));
        argument(() -> x.simulate(0L, 100));
        due(turnsByCalls(new FrameCard(), 0L, 1), x.simulate(0L, 1));
        due(turnsByCalls(new FrameCard(), 0L, 99), x.simulate(0L, 99));
    }

    @Says(promise = 24, value = {"- `seed`: any long", "A long x starts as the seed, and a picture p as 123456.",
        "Each turn first replaces x by x * 6364136223846793005L + 1442695040888963407L (with long overflow), and r = (int)"
            + " (x >>> 33) is computed.",
        "If r % 4 is 0, p becomes r / 64 % 1000000", "if it is 1, the last digit of p becomes r / 64 % 10", "otherwise p stays."})
    static void anySeed() {
        String card = "C132302s000000s000004n1";
        for (long seed : new long[] {0L, 1L, -1L, 2L, 12345L, Integer.MAX_VALUE, Integer.MIN_VALUE, Long.MAX_VALUE,
            Long.MIN_VALUE, 0x5555555555555555L, 0xaaaaaaaaaaaaaaaaL}) {
            FrameCard x = card(card);
            for (int m : new int[] {1, 2, 3, 5, 10, 30, 98, 99}) {
                due(turnsByCalls(card(card), seed, m), x.simulate(seed, m));
            }
        }
    }

    @Says(promise = 24, value = {"a picture p as 123456.", "otherwise p stays."})
    static void thePictureAtFirst() {
        int stayed = 0;
        for (long seed = 0; seed < 60; seed++) {
            if (pictures(seed, 1).get(0) == 123456) {
                stayed++;
                due(10000, card("C080001s423450n1").simulate(seed, 1));
                due(2, card("C080001s323450n1").simulate(seed, 1));
            }
        }
        tell(stayed > 0, "no picture stays");
    }

    @Says(promise = 24, value = {"If r / 4 % 4 is below 3, p comes as a picture.", "Then a tick goes by."})
    static void oneTurnOfEachKind() {
        int came = 0;
        for (long seed = 0; seed < 60; seed++) {
            boolean comes = pictures(seed, 1).get(0) != -1;
            FrameCard x = card("C480001");
            due(comes ? 1 : 0, x.simulate(seed, 1));
            came += comes ? 1 : 0;
        }
        tell(came > 0 && came < 60, "all turns are alike");
    }

    @Says(promise = 24, value = {"Simulates m turns on a copy of the state.", "Returns 10000 * (the frames that are dropped in them)"
            + " + 100 * (those that are lost in them) + (the kept frames at the end)."})
    static void onlyWhatIsDroppedAndLostInTheTurnsCounts() {
        FrameCard x = card("C080001s000000n1d00s999999s000000s999999s000000s999999");
        due(1, x.about(4));
        due(1, x.about(5));
        FrameCard y = card("C080001s000000n1d00s999999s000000s999999s000000s999999");
        int answer = x.simulate(3L, 99);
        due(turnsByCalls(y, 3L, 99), answer);
        tell(answer / 100 % 100 > 50, "few frames are lost: " + answer);
        FrameCard dropping = card("C088001s000000n1s999999");
        answer = dropping.simulate(3L, 99);
        due(turnsByCalls(card("C088001s000000n1s999999"), 3L, 99), answer);
        tell(answer / 10000 > 5 && answer % 100 > 0, "few frames are dropped, or none kept: " + answer);
    }

    // ---- save slots

    @Says(promise = 25, value = {"- `slot`: 0 or 1", "Throws `IndexOutOfBoundsException` if there is no such save slot"})
    static void saveIn0And1() {
        FrameCard x = new FrameCard();
        index(() -> x.save(-1));
        index(() -> x.save(2));
        due(0, x.save(0));
        state(() -> x.restore(1));
        due(0, x.save(1));
        due(0, x.restore(0));
        due(0, x.restore(1));
    }

    @Says(promise = 25, value = {"Stores the present state in a save slot.", "Returns the kept frames."})
    static void saveReplacesWhatWasSaved() {
        FrameCard x = card("C480001s000000s000000s000000n1");
        due(3, x.save(0));
        x.drop(0);
        due(2, x.save(1));
        x.drop(0);
        due(1, x.save(0));
        due(1, x.undo());
        due(2, x.about(2));
        due(1, x.restore(0));
        due(2, x.restore(1));
        due(1, x.restore(0));
    }

    @Says(promise = 26, value = {"- `slot`: 0 or 1", "Throws `IndexOutOfBoundsException` if there is no such save slot",
        "Throws `IllegalStateException` if nothing has been saved in it since the last load"})
    static void restoreFrom0And1() {
        FrameCard x = text("C242204");
        index(() -> x.restore(-1));
        index(() -> x.restore(2));
        state(() -> x.restore(0));
        state(() -> x.restore(1));
        x.save(1);
        state(() -> x.restore(0));
        due(0, x.restore(1));
        x.load();
        state(() -> x.restore(0));
        state(() -> x.restore(1));
        x.save(0);
        due(0, x.restore(0));
        state(() -> x.restore(1));
    }

    @Says(promise = 26, value = {"Replaces the state by the one in a save slot, and forgets all remembered states.",
        "Returns the kept frames then."})
    static void restoreBringsBackAll() {
        String card = "C121203s000000n1s000001s000002n1s000009s999999s000000s000000s000000n2d00";
        FrameCard want = card(card);
        due(want.about(2), want.save(0));
        FrameCard x = card(card);
        x.save(0);
        x.format(48);
        x.ticks(50);
        x.set(0, 8);
        x.set(1, 9);
        x.set(2, 20);
        x.shoot(5);
        x.ticks(7);
        due(want.about(2), x.restore(0));
        Look.compare(want, x, "restore(0)");
    }

    @Says(promise = 26, value = "forgets all remembered states.")
    static void restoreForgetsRememberedStates() {
        FrameCard x = new FrameCard();
        x.save(0);
        x.ticks(1);
        x.restore(0);
        state(x::undo);
        x.ticks(2);
        due(0, x.undo());
        due(0, x.about(0));
    }

    @Says(promise = 26, value = "The save slot keeps it.")
    static void theSlotKeepsItsState() {
        FrameCard x = card("C480001s000000s000000n1");
        x.save(1);
        for (int k = 0; k < 3; k++) {
            x.drop(0);
            x.shoot(999999);
            x.ticks(1);
            due(2, x.restore(1));
            keptAre(x, 0, 0, 1);
            due(1, x.about(0));
            due(2, x.about(1));
        }
    }
}
