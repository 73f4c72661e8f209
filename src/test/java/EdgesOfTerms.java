import java.util.Arrays;

/** The edges that the document names ahead of its promises: pictures, frames, blocks, a tick, text, actions and undo. */
final class EdgesOfTerms extends Checks {
    /** A picture whose difference from 000000 is this. */
    static int away(int difference) {
        int picture = 0;
        int left = difference;
        for (int place = 1; place <= 100000; place *= 10) {
            int digit = Math.min(left, 9);
            picture += digit * place;
            left -= digit;
        }
        return picture;
    }

    private static int changeOf(int one, int other) {
        FrameCard x = card("C480001");
        x.shoot(one);
        x.shoot(other);
        x.ticks(1);
        return x.frame(1, 3);
    }

    private static int sizeBehind(int one, int other) {
        FrameCard x = new FrameCard();
        x.shoot(one);
        x.shoot(other);
        return x.waiting(1, 2);
    }

    @Says("An object is used for at most 512 calls after it has been made")
    static void the512thCallAnswers() {
        FrameCard x = new FrameCard();
        for (int call = 1; call <= 510; call++) {
            x.ticks(50);
        }
        due(25500, x.about(0));
        due(6375, x.about(10));
        FrameCard y = new FrameCard();
        for (int call = 1; call <= 511; call++) {
            y.shoot(0);
        }
        due(507, y.about(5));
    }

    // ---- pictures and frames

    @Says("A picture is six digits, told as a number from 0 to 999999 (with zeros before it).")
    static void pictureOfSixDigits() {
        FrameCard x = new FrameCard();
        argument(() -> x.shoot(-1));
        argument(() -> x.shoot(1000000));
        due(0, x.shoot(0));
        due(1, x.shoot(999999));
        due(0, x.waiting(0, 1));
        due(999999, x.waiting(1, 1));
        due(18, changeOf(9, 900000));
        due(1, changeOf(100000, 0));
    }

    @Says("The difference of two pictures is the sum, over the six places, of the differences of their digits, without signs: 0 to 54.")
    static void differenceFrom0To54() {
        due(0, changeOf(0, 0));
        due(0, changeOf(999999, 999999));
        due(54, changeOf(0, 999999));
        due(54, changeOf(999999, 0));
        for (int place = 1; place <= 100000; place *= 10) {
            due(9, changeOf(0, 9 * place));
            due(9, changeOf(9 * place, 0));
            due(1, changeOf(4 * place, 5 * place));
            due(1, changeOf(5 * place, 4 * place));
        }
        due(2, changeOf(10, 1));
        due(18, changeOf(123456, 654321));
        for (int difference = 0; difference <= 54; difference++) {
            due(difference, changeOf(0, away(difference)));
        }
    }

    @Says("The size of a picture behind another one is 1 + (their difference / 9, rounded down), so 1 to 7 blocks")
    static void sizesFrom1To7() {
        int[][] edges = {{0, 1}, {8, 1}, {9, 2}, {17, 2}, {18, 3}, {26, 3}, {27, 4}, {35, 4}, {36, 5}, {44, 5}, {45, 6},
            {53, 6}, {54, 7}};
        for (int[] edge : edges) {
            due(edge[1], sizeBehind(0, away(edge[0])));
            due(edge[1], sizeBehind(away(edge[0]), 0));
        }
    }

    @Says("of the first picture that ever came it is 7 (format() does not make another one the first)")
    static void firstPictureEver() {
        FrameCard x = new FrameCard();
        x.shoot(0);
        due(7, x.waiting(0, 2));
        x.undo();
        x.shoot(999990);
        due(7, x.waiting(0, 2));
        x.format(24);
        x.shoot(999999);
        due(2, x.waiting(0, 2));
        x.format(8);
        x.format(48);
        x.shoot(999999);
        due(1, x.waiting(0, 2));
        x.ticks(1);
        x.drop(0);
        x.shoot(999999);
        due(1, x.waiting(0, 2));
        type(x, "C242204");
        x.load();
        x.shoot(999999);
        due(7, x.waiting(0, 2));
    }

    @Says("Each picture that comes is a frame; frames are numbered from 0 in the order in which they came.")
    static void numbersFrom0() {
        FrameCard x = new FrameCard();
        for (int number = 0; number < 4; number++) {
            due(number, x.shoot(0));
        }
        due(FrameCard.NONE, x.shoot(0));
        x.ticks(1);
        due(5, x.shoot(0));
        due(5, x.waiting(0, 0));
        due(6, x.about(1));
        x.format(24);
        due(6, x.shoot(0));
    }

    private static void allCameAreSomewhere(FrameCard x, int kept, int waiting, int dropped, int lost) {
        due(kept, x.about(2));
        due(waiting, x.about(3));
        due(dropped, x.about(4));
        due(lost, x.about(5));
        due(kept + waiting + dropped + lost, x.about(1));
    }

    @Says("A frame waits, or is kept, or is gone: dropped, or lost.")
    static void waitsOrIsKeptOrIsGone() {
        FrameCard x = card("C080001s000000s999999s000000s999999s000000");
        allCameAreSomewhere(x, 0, 4, 0, 1);
        x.ticks(1);
        allCameAreSomewhere(x, 0, 3, 1, 1);
        x.set(0, 8);
        x.ticks(1);
        allCameAreSomewhere(x, 0, 2, 2, 1);
        x.ticks(2);
        allCameAreSomewhere(x, 1, 0, 3, 1);
        x.shoot(999999);
        x.format(8);
        allCameAreSomewhere(x, 0, 0, 5, 1);
    }

    @Says("Its size is told once, when it comes, by the picture that came just ahead of it, whatever became of that.")
    static void sizeByThePictureAhead() {
        FrameCard lost = card("C240001s000000s000000s000000s000000s999999n1s999999");
        due(1, lost.about(5));
        due(1, lost.waiting(0, 2));
        FrameCard dropped = card("C240001s000000n1d00s000000");
        due(1, dropped.waiting(0, 2));
        FrameCard formatted = card("C240001s000000s999999");
        formatted.format(24);
        formatted.shoot(999999);
        due(1, formatted.waiting(0, 2));
    }

    @Says("Its size is told once")
    static void sizeStaysWhenTheOneAheadIsDropped() {
        FrameCard x = card("C240001s000000s000099s000099n1d01");
        keptAre(x, 2, 7, 1);
        keptAre(x, 3, -1, 18);
        x.drop(0);
        keptAre(x, 2, 1);
        due(1, x.drop(0));
    }

    @Says("At most 4 frames wait at one time, in the order in which they came; one that comes when 4 wait is lost.")
    static void fourWaitTheFifthIsLost() {
        FrameCard x = new FrameCard();
        for (int waits = 1; waits <= 4; waits++) {
            x.shoot(100 * waits);
            due(waits, x.about(3));
            due(0, x.about(5));
        }
        due(FrameCard.NONE, x.shoot(500));
        due(4, x.about(3));
        due(1, x.about(5));
        for (int i = 0; i < 4; i++) {
            due(i, x.waiting(i, 0));
            due(100 * (i + 1), x.waiting(i, 1));
        }
        index(() -> x.waiting(4, 0));
    }

    @Says("At most 4 frames wait at one time, in the order in which they came; one that comes when 4 wait is lost.")
    static void aPlaceIsFreeAgainWhenOneIsStored() {
        FrameCard x = card("C080001s000000s999999s000000s999999n1");
        due(3, x.about(3));
        due(4, x.shoot(0));
        due(4, x.about(3));
        due(1, x.waiting(0, 0));
        due(4, x.waiting(3, 0));
        due(FrameCard.NONE, x.shoot(0));
        due(1, x.about(5));
    }

    @Says("Kept frames stand in the order of their numbers.")
    static void keptInTheOrderOfNumbers() {
        FrameCard x = card("C480001s000000s000000s000000s000000s000000n1d01s000000n1");
        keptAre(x, 0, 0, 2, 3, 5);
        due(10, x.frame(3, 6));
    }

    @Says("The change of a kept frame is the difference to the kept frame before it; the first kept frame has none.")
    static void changesFollowWhatIsKept() {
        FrameCard x = card("C480001s000000s000001s000003s000007n1");
        keptAre(x, 3, -1, 1, 2, 4);
        x.drop(1);
        keptAre(x, 3, -1, 3, 4);
        x.drop(2);
        keptAre(x, 3, -1, 3);
        x.shoot(4);
        x.ticks(1);
        keptAre(x, 3, -1, 3, 1);
        x.drop(0);
        keptAre(x, 3, -1, 1);
        x.drop(0);
        keptAre(x, 3, -1);
        x.drop(0);
        keptAre(x, 3);
    }

    // ---- blocks

    @Says("The card has 8 to 48 blocks, numbered from 0, at first 24; each is free (at first), used by a kept frame, or dirty.")
    static void blocksFrom8To48() {
        FrameCard x = new FrameCard();
        int[] free = new int[48];
        Arrays.fill(free, FrameCard.NONE);
        blocksAre(x, Arrays.copyOf(free, 24));
        argument(() -> x.format(7));
        argument(() -> x.format(49));
        x.format(8);
        blocksAre(x, Arrays.copyOf(free, 8));
        x.format(48);
        blocksAre(x, free);
        index(() -> x.block(-1));
        FrameCard y = card("C080001s000000n1");
        blocksAre(y, 0, 0, 0, 0, 0, 0, 0, -1);
        y.drop(0);
        blocksAre(y, -2, -2, -2, -2, -2, -2, -2, -1);
    }

    @Says("A frame is stored in the lowest free blocks, as many as its size.")
    static void storedInTheLowestFreeBlocks() {
        FrameCard x = card("C100001s000000n1s000000s000000s000000n1d03d01d00");
        x.set(0, 8);
        x.ticks(2);
        blocksAre(x, -1, -1, -1, -1, -1, -1, -1, -1, 2, -1);
        x.shoot(9);
        x.shoot(999990);
        x.ticks(1);
        blocksAre(x, 4, 4, 5, 5, 5, 5, 5, 5, 2, 5);
        keptAre(x, 6, 8, 0, 2);
    }

    @Says("When a kept frame is dropped, its blocks become dirty.")
    static void blocksOfADroppedFrame() {
        FrameCard x = card("C100001s000000n1s000000n1d00");
        blocksAre(x, -2, -2, -2, -2, -2, -2, -2, 1, -1, -1);
        due(7, x.about(8));
        due(2, x.about(7));
        FrameCard inATick = card("C080001s000000n1s000009n1");
        blocksAre(inATick, -2, -2, -2, -2, -2, -2, -2, -1);
        due(7, inATick.about(8));
        due(1, inATick.about(7));
    }

    @Says("Cleaning makes the lowest dirty blocks free.")
    static void lowestDirtyBlocksFirst() {
        FrameCard x = card("C100001s000000n1s000000s000000n1d02d00");
        x.set(0, 3);
        x.ticks(1);
        blocksAre(x, -1, -1, -1, -2, -2, -2, -2, 1, -2, -1);
        x.ticks(1);
        blocksAre(x, -1, -1, -1, -1, -1, -1, -2, 1, -2, -1);
        x.ticks(1);
        blocksAre(x, -1, -1, -1, -1, -1, -1, -1, 1, -1, -1);
    }

    // ---- a tick

    private static void settingRange(int what, int first, int lowest, int highest) {
        FrameCard x = new FrameCard();
        due(first, x.setting(what));
        argument(() -> x.set(what, lowest - 1));
        argument(() -> x.set(what, highest + 1));
        due(first, x.set(what, lowest));
        due(lowest, x.set(what, highest));
        due(highest, x.setting(what));
    }

    @Says("0: the pace, 0 to 8 blocks that are cleaned in a tick, at first 2")
    static void paceFrom0To8() {
        settingRange(0, 2, 0, 8);
    }

    @Says("1: the promise, 0 to 9 frames, at first 2")
    static void promiseFrom0To9() {
        settingRange(1, 2, 0, 9);
    }

    @Says("2: the round, 1 to 20 ticks, at first 4")
    static void roundFrom1To20() {
        settingRange(2, 4, 1, 20);
    }

    @Says("As many dirty blocks as the pace, or all, become free.")
    static void asManyAsThePaceOrAll() {
        for (int pace = 0; pace <= 8; pace++) {
            FrameCard x = card("C100001s000000n1d00");
            x.set(0, pace);
            x.ticks(1);
            due(Math.max(0, 7 - pace), x.about(8));
            due(Math.min(10, 3 + pace), x.about(7));
        }
        FrameCard more = card("C488001s000000s999999n1d00d00n1");
        due(6, more.about(8));
        more.ticks(1);
        due(0, more.about(8));
        due(48, more.about(7));
    }

    @Says("In a tick these things happen, one after the other:")
    static void cleanedBlocksAreUsedInTheSameTick() {
        for (int pace = 5; pace <= 6; pace++) {
            FrameCard x = card("C080001s000000n1d00s999999");
            x.set(0, pace);
            due(pace - 5, x.ticks(1));
        }
    }

    @Says("In a tick these things happen, one after the other:")
    static void blocksOfAFrameDroppedInATickAreCleanedInTheNext() {
        FrameCard x = card("C088001s000000n1s999999");
        due(0, x.ticks(1));
        due(7, x.about(8));
        due(1, x.ticks(1));
        due(0, x.about(8));
    }

    @Says("In a tick these things happen, one after the other:")
    static void aFrameStoredInATickMayBeDroppedInIt() {
        FrameCard x = card("C080001s000000s999999");
        due(1, x.ticks(1));
        due(0, x.about(2));
        due(1, x.about(4));
        due(1, x.waiting(0, 0));
    }

    @Says("As long as frames wait, and at least as many blocks are free as the first one needs, this one is stored.")
    static void storedWhenJustEnoughAreFree() {
        FrameCard enough = card("C080001s000000n1s000008");
        due(1, enough.about(7));
        due(1, enough.ticks(1));
        due(0, enough.about(7));
        FrameCard oneFewer = card("C080001s000000n1s000009");
        due(1, oneFewer.about(7));
        due(0, oneFewer.ticks(1));
        due(1, oneFewer.about(3));
    }

    @Says("As long as frames wait, and at least as many blocks are free as the first one needs, this one is stored.")
    static void allFourAreStoredInOneTick() {
        FrameCard x = card("C100001s000000s000000s000000s000000");
        due(4, x.ticks(1));
        due(0, x.about(3));
        due(0, x.about(7));
        due(0, x.ticks(1));
    }

    @Says("As long as frames wait, and at least as many blocks are free as the first one needs, this one is stored.")
    static void noFrameOvertakesTheFirst() {
        FrameCard x = card("C080001s000000n1s000009s000009");
        due(1, x.waiting(1, 2));
        due(0, x.ticks(1));
        due(2, x.about(3));
        due(1, x.about(7));
    }

    @Says("(It is late, if a tick has ended since it came.)")
    static void lateBehindTheEndOfATick() {
        FrameCard intime = new FrameCard();
        intime.ticks(5);
        intime.shoot(0);
        intime.ticks(1);
        due(0, intime.about(6));
        FrameCard late = card("C080001s000000n1d00s999999n1");
        due(1, late.about(3));
        due(0, late.about(6));
        late.set(0, 8);
        late.ticks(1);
        due(1, late.about(6));
        due(1, late.frame(0, 5));
    }

    @Says("If then a frame waits, and the free and dirty blocks together are fewer than the first one needs: as long as this is so,"
            + " and a frame is kept, the kept frame with the smallest change is dropped")
    static void noneIsDroppedWhenJustEnoughAreFreeOrDirty() {
        FrameCard enough = card("C100001s000000n1s000000n1d01s000099n1");
        due(1, enough.about(3));
        due(3, enough.about(7) + enough.about(8));
        due(1, enough.about(2));
        due(1, enough.about(4));
        FrameCard oneFewer = card("C100001s000000n1s000000n1d01s000999n1");
        due(0, oneFewer.about(2));
        due(2, oneFewer.about(4));
        due(1, oneFewer.about(3));
    }

    @Says("as long as this is so, and a frame is kept")
    static void droppingStopsWhenThereIsRoom() {
        FrameCard one = card("C120001s000000n1s000001s000003s000006n1s990006n1");
        keptAre(one, 0, 0, 2, 3);
        FrameCard two = card("C120001s000000n1s000001s000003s000006n1s999006n1");
        keptAre(two, 0, 0, 3);
        FrameCard all = card("C120001s000000n1s000001s000003s000006n1s999996n1");
        keptAre(all, 0);
        due(4, all.about(4));
        due(1, all.about(3));
        due(10, all.about(8));
    }

    @Says("If then a frame waits")
    static void noneIsDroppedWhenNoneWaits() {
        FrameCard x = card("C080001s000000n1s000000n1n9");
        due(0, x.about(7));
        due(2, x.about(2));
        due(0, x.about(4));
    }

    @Says("the free and dirty blocks together are fewer than the first one needs")
    static void onlyTheNeedOfTheFirstCounts() {
        FrameCard x = card("C100001s000000n1s000000n1d01s000099s999900n1");
        due(3, x.waiting(0, 2));
        due(7, x.waiting(1, 2));
        keptAre(x, 0, 0);
        due(1, x.about(4));
    }

    @Says("the kept frame with the smallest change is dropped")
    static void smallestChangeIsDropped() {
        FrameCard x = card("C110001s000000n1s000003s000005s000006s000008n1s000008n1");
        keptAre(x, 0, 0, 1, 2, 4);
        keptAre(x, 3, -1, 3, 2, 3);
        blocksAre(x, 0, 0, 0, 0, 0, 0, 0, 1, 2, -2, 4);
    }

    @Says("of several the one with the lowest number")
    static void lowestNumberOfSeveralIsDropped() {
        FrameCard x = card("C110001s000000n1s000003s000004s000005s000007n1s000007n1");
        keptAre(x, 0, 0, 1, 3, 4);
        FrameCard allAlike = card("C110001s000000n1s000000s000000s000000s000000n1s000000n1");
        keptAre(allAlike, 0, 0, 2, 3, 4);
    }

    @Says("the first kept frame is dropped only if it is the only one.")
    static void firstIsDroppedOnlyAlone() {
        FrameCard two = card("C140001s000000s999999n1s999999n1");
        keptAre(two, 0, 0);
        due(1, two.about(4));
        FrameCard alone = card("C080001s000000n1s000009n1");
        keptAre(alone, 0);
        due(1, alone.about(4));
    }

    @Says("If as many ticks have ended in this round as the setting says, or more, the round ends")
    static void roundEndsAtTheSetting() {
        FrameCard x = new FrameCard();
        x.ticks(3);
        due(0, x.about(9));
        due(3, x.about(12));
        x.ticks(1);
        due(1, x.about(9));
        FrameCard longest = card("C242220n9n9n1");
        due(0, longest.about(9));
        longest.ticks(1);
        due(1, longest.about(9));
        FrameCard shortest = card("C242201n1");
        due(1, shortest.about(9));
        shortest.ticks(1);
        due(2, shortest.about(9));
    }

    @Says("If as many ticks have ended in this round as the setting says, or more, the round ends")
    static void roundEndsWithTheNextTickWhenTheSettingIsLowered() {
        FrameCard x = card("C242220n5");
        x.set(2, 3);
        due(0, x.about(9));
        due(5, x.about(12));
        x.ticks(1);
        due(1, x.about(9));
        due(0, x.about(12));
        x.ticks(2);
        due(1, x.about(9));
        x.ticks(1);
        due(2, x.about(9));
    }

    @Says("If as many ticks have ended in this round as the setting says, or more, the round ends")
    static void roundGoesOnWhenTheSettingIsRaised() {
        FrameCard x = new FrameCard();
        x.ticks(3);
        x.set(2, 6);
        x.ticks(2);
        due(0, x.about(9));
        x.ticks(1);
        due(1, x.about(9));
    }

    @Says("if fewer frames were stored in it than promised, the promise is broken")
    static void oneFewerThanPromised() {
        due(0, card("C480204s000000s000000n4").about(10));
        due(1, card("C480204s000000n4").about(10));
        due(0, card("C480001n1").about(10));
        String seven = "s000000s000000s000000s000000n1s000000s000000s000000n1";
        FrameCard nine = card("C480903" + seven + "s000000s000000n1");
        due(1, nine.about(9));
        due(0, nine.about(10));
        FrameCard eight = card("C480903" + seven + "s000000n1");
        due(1, eight.about(10));
        due(8, eight.broken(0, 2));
    }

    @Says("if fewer frames were stored in it than promised, the promise is broken")
    static void thePromiseIsTheOneAtTheEndOfTheRound() {
        FrameCard x = card("C480104s000000n3");
        x.set(1, 2);
        x.ticks(1);
        due(1, x.about(10));
        x.set(1, 9);
        x.ticks(3);
        x.set(1, 0);
        x.ticks(1);
        due(1, x.about(10));
        due(2, x.about(9));
    }

    @Says("if fewer frames were stored in it than promised, the promise is broken")
    static void aFrameCountsInTheRoundInWhichItIsStored() {
        FrameCard x = card("C080101s000000n1d00s999999n1");
        due(1, x.about(10));
        x.set(0, 8);
        x.ticks(1);
        due(1, x.about(10));
        due(3, x.about(9));
    }

    @Says("1: fewer frames came in it than promised")
    static void whyFewerCame() {
        FrameCard eight = card("C080901s000000s000000s000000s000000s000000s000000s000000s000000n1");
        due(4, eight.about(5));
        due(1, eight.broken(0, 1));
        FrameCard waitsFromTheRoundBefore = card("C080101s000000s999999s000000n1");
        due(0, waitsFromTheRoundBefore.about(10));
        waitsFromTheRoundBefore.ticks(1);
        due(2, waitsFromTheRoundBefore.about(3));
        due(1, waitsFromTheRoundBefore.broken(0, 1));
    }

    @Says("2: a frame was lost in it")
    static void whyOneWasLost() {
        FrameCard nine = card("C080901s000000s000000s000000s000000s000000s000000s000000s000000s000000n1");
        due(5, nine.about(5));
        due(2, nine.broken(0, 1));
        FrameCard one = card("C080501s000000s000000s000000s000000s000000n1");
        due(1, one.about(5));
        due(2, one.broken(0, 1));
        FrameCard noneWaits = card("C480501s000000s000000s000000s000000s000000n1");
        due(0, noneWaits.about(3));
        due(2, noneWaits.broken(0, 1));
    }

    @Says("3: a frame waits")
    static void whyOneWaits() {
        FrameCard x = card("C080401s000000s000000s000000s000000n1");
        due(2, x.about(3));
        due(3, x.broken(0, 1));
        FrameCard one = card("C080301s000000s000000s000000n1");
        due(1, one.about(3));
        due(3, one.broken(0, 1));
        FrameCard lostBefore = card("C080201s000000s000000s000000s000000s000000n1s000000s000000n1");
        due(1, lostBefore.about(5));
        due(1, lostBefore.about(10));
        due(3, lostBefore.broken(0, 1));
    }

    @Says("4: none of these")
    static void whyNoneOfThese() {
        FrameCard x = card("C080201s000000s000000");
        x.format(8);
        x.ticks(1);
        due(4, x.broken(0, 1));
        due(0, x.broken(0, 2));
    }

    @Says("why is told by the first of these that applies")
    static void whyIsTheFirstThatApplies() {
        FrameCard x = card("C080201s000000n1s999999s000000s999999s000000n1s999999n1s000000s000000n1");
        due(4, x.about(10));
        int[] why = {2, 1, 3, 1};
        for (int k = 0; k < 4; k++) {
            due(why[k], x.broken(k, 1));
        }
        due(3, x.about(5));
        due(4, x.about(3));
    }

    @Says("A new round begins.")
    static void allCountsOfARoundBeginAnew() {
        FrameCard x = card("C240104s000000s000000s000000s000000s000000n1");
        due(4, x.about(13));
        due(1, x.about(12));
        x.ticks(3);
        due(0, x.about(13));
        due(0, x.about(12));
        due(0, x.about(10));
        x.ticks(4);
        due(1, x.about(10));
        due(1, x.broken(0, 0));
        due(1, x.broken(0, 1));
        due(0, x.broken(0, 2));
    }

    // ---- text

    @Says("The object has a text buffer of at most 120 characters.")
    static void textOf120Characters() {
        String card = "C080001s000000" + "n1".repeat(53);
        FrameCard x = text(card);
        due(120, card.length());
        state(() -> x.append('n'));
        due(FrameCard.NONE, x.errorPosition());
        due(0, x.load());
        due(53, x.about(0));
        due(120, x.clearText());
    }

    @Says("A card is the letter C")
    static void cardBeginsWithC() {
        errorIs(FrameCard.NONE, "C242204");
        for (String other : new String[] {"c242204", "B242204", "D242204", " C242204", "242204"}) {
            errorIs(0, other);
        }
    }

    @Says("two digits for the blocks (08 to 48)")
    static void blocksOfATextFrom08To48() {
        errorIs(2, "C072204");
        errorIs(2, "C002204");
        errorIs(FrameCard.NONE, "C082204");
        errorIs(FrameCard.NONE, "C092204");
        errorIs(FrameCard.NONE, "C102204");
        errorIs(FrameCard.NONE, "C482204");
        errorIs(2, "C492204");
        errorIs(1, "C502204");
        errorIs(1, "C82204");
        due(8, card("C082204").about(11));
        due(48, card("C482204").about(11));
    }

    @Says("a digit for the pace (0 to 8)")
    static void paceOfATextFrom0To8() {
        errorIs(FrameCard.NONE, "C240204");
        errorIs(FrameCard.NONE, "C248204");
        errorIs(3, "C249204");
        errorIs(3, "C24/204");
        due(0, card("C240204").setting(0));
        due(8, card("C248204").setting(0));
    }

    @Says("one for the promise")
    static void promiseOfATextFrom0To9() {
        errorIs(FrameCard.NONE, "C242004");
        errorIs(FrameCard.NONE, "C242904");
        errorIs(4, "C242:04");
        errorIs(4, "C242/04");
        due(0, card("C242004").setting(1));
        due(9, card("C242904").setting(1));
    }

    @Says("two for the round (01 to 20)")
    static void roundOfATextFrom01To20() {
        errorIs(6, "C242200");
        errorIs(FrameCard.NONE, "C242201");
        errorIs(FrameCard.NONE, "C242209");
        errorIs(FrameCard.NONE, "C242210");
        errorIs(FrameCard.NONE, "C242219");
        errorIs(FrameCard.NONE, "C242220");
        errorIs(6, "C242221");
        errorIs(5, "C242230");
        due(1, card("C242201").setting(2));
        due(20, card("C242220").setting(2));
    }

    @Says("and then any number of commands")
    static void anyNumberOfCommands() {
        due(0, card("C242204").load());
        FrameCard most = text("C242204" + "n1".repeat(56));
        due(FrameCard.NONE, most.errorPosition());
        due(0, most.load());
        due(56, most.about(0));
        FrameCard dropsAlone = text("C242204" + "d00".repeat(37));
        due(37, dropsAlone.load());
        FrameCard comes = text("C242204" + "s000000".repeat(16));
        due(0, comes.load());
        due(16, comes.about(1));
        due(12, comes.about(5));
    }

    @Says("s and six digits for a picture: shoot()")
    static void sAndSixDigits() {
        due(0, card("C242204s000000").waiting(0, 1));
        due(999999, card("C242204s999999").waiting(0, 1));
        due(123456, card("C242204s123456").waiting(0, 1));
        errorIs(13, "C242204s12345");
        errorIs(13, "C242204s12345s");
        errorIs(14, "C242204s1234567");
        errorIs(7, "C242204S123456");
        errorIs(8, "C242204s-12345");
    }

    @Says("n and a digit (1 to 9): so many ticks")
    static void nAndADigit() {
        errorIs(8, "C242204n0");
        due(1, card("C242204n1").about(0));
        due(9, card("C242204n9").about(0));
        errorIs(8, "C242204n:");
        errorIs(9, "C242204n10");
        errorIs(7, "C242204N1");
    }

    @Says("d and two digits for a kept frame's place (00 to 47): drop()")
    static void dAndTwoDigits() {
        errorIs(FrameCard.NONE, "C242204d00");
        errorIs(FrameCard.NONE, "C242204d39");
        errorIs(FrameCard.NONE, "C242204d47");
        errorIs(9, "C242204d48");
        errorIs(8, "C242204d50");
        errorIs(9, "C242204d0");
        errorIs(9, "C242204d0n1");
        errorIs(10, "C242204d000");
        keptAre(card("C242204s000000s000000n1d01"), 0, 0);
        keptAre(card("C242204s000000s000000n1d00"), 0, 1);
    }

    @Says("d and two digits for a kept frame's place (00 to 47): drop()")
    static void thePlaceMayHaveTwoDigits() {
        FrameCard x = text("C480001s000000s000000s000000s000000n1s000000s000000s000000s000000n1"
                + "s000000s000000s000000n1d10d10");
        due(1, x.load());
        keptAre(x, 0, 0, 1, 2, 3, 4, 5, 6, 7, 8, 9);
    }

    @Says("Commands that would throw an exception are left out.")
    static void onlySuchCommandsAreLeftOut() {
        FrameCard x = text("C242204d00s000000d00n1d01d47d00d00s000000");
        due(5, x.load());
        allCameAreSomewhere(x, 0, 1, 1, 0);
        due(1, x.about(0));
    }

    @Says("There are no blanks.")
    static void aBlankIsAnErrorAtEachPlace() {
        String card = "C242204s123456n1d00";
        errorIs(FrameCard.NONE, card);
        for (int at = 0; at <= card.length(); at++) {
            errorIs(at, card.substring(0, at) + " " + card.substring(at));
        }
    }

    @Says("The text is read from left to right.")
    static void readFromLeftToRight() {
        due(1, card("C242204n1s000000").about(3));
        due(1, card("C242204s000000n1").about(2));
        errorIs(3, "C24x204x");
        errorIs(8, "C242204n0n0");
    }

    @Says("The error position is the index of the first character that these rules do not allow at its place"
            + " (a digit is not allowed if no number that is allowed begins with it and those before it)")
    static void aDigitThatNoAllowedNumberBeginsWith() {
        errorIs(1, "C5");
        errorIs(2, "C4");
        errorIs(2, "C49");
        errorIs(2, "C0");
        errorIs(2, "C07");
        errorIs(5, "C24223");
        errorIs(6, "C24222");
        errorIs(6, "C242221");
        errorIs(6, "C242200");
        errorIs(8, "C242204d5");
        errorIs(9, "C242204d4");
        errorIs(9, "C242204d48");
        errorIs(8, "C242204n0");
    }

    @Says("The error position is the index of the first character that these rules do not allow at its place")
    static void oddCharacters() {
        for (int sign : new int[] {0, 10, '/', ':', 'x', 127, 128, 255}) {
            String card = "C242204s123456n1d00";
            for (int at = 0; at <= card.length(); at++) {
                errorIs(at, card.substring(0, at) + (char) sign + card.substring(at));
            }
        }
    }

    @Says("if the text ends too soon, it is the length of the text.")
    static void textThatEndsTooSoon() {
        String card = "C242204s123456n1d00";
        for (int length = 0; length <= card.length(); length++) {
            boolean whole = length == 7 || length == 14 || length == 16 || length == 19;
            errorIs(whole ? FrameCard.NONE : length, card.substring(0, length));
        }
        errorIs(120, "C242204" + "n1".repeat(55) + "s00");
        errorIs(120, "C242204" + "n1".repeat(56) + "n");
        errorIs(120, "C242204" + "n1".repeat(56) + "d");
    }

    // ---- actions and undo

    @Says("The methods in the section \"actions\" change the state, which consists of everything but the text and the save slots.")
    static void undoLeavesTextAndSaveSlots() {
        FrameCard x = text("C24220");
        x.shoot(5);
        x.save(1);
        x.ticks(1);
        x.save(0);
        x.append('4');
        due(1, x.undo());
        due(0, x.undo());
        due(FrameCard.NONE, x.errorPosition());
        due(7, x.clearText());
        due(1, x.restore(0));
        due(0, x.restore(1));
        due(5, x.waiting(0, 1));
    }

    @Says("The methods in the section \"actions\" change the state, which consists of everything but the text and the save slots.")
    static void undoBringsBackEverythingElse() {
        String card = "C121901s000000n1s000001s000002n1s000009s999999s000000s000000s000000n2d00s555555";
        FrameCard untouched = card(card);
        FrameCard x = card(card);
        x.shoot(123456);
        x.ticks(50);
        x.set(0, 8);
        x.set(1, 9);
        x.set(2, 20);
        x.ticks(50);
        x.drop(0);
        x.format(48);
        x.shoot(1);
        for (int left = 8; left >= 0; left--) {
            due(left, x.undo());
        }
        due(4, x.about(10));
        Look.compare(untouched, x, "undo");
    }

    @Says("The methods in the section \"actions\" change the state, which consists of everything but the text and the save slots.")
    static void undoBringsBackTheCountsOfTheRound() {
        FrameCard fewer = card("C080204s000000n1");
        fewer.shoot(0);
        fewer.undo();
        fewer.ticks(3);
        due(1, fewer.broken(0, 1));
        FrameCard noneLost = card("C080304s000000s000000s999999s000000");
        noneLost.shoot(0);
        due(1, noneLost.about(5));
        noneLost.undo();
        noneLost.ticks(4);
        due(3, noneLost.broken(0, 1));
        FrameCard oneLost = card("C080304s000000s000000s999999s000000s000000");
        oneLost.ticks(50);
        oneLost.undo();
        oneLost.ticks(4);
        due(2, oneLost.broken(0, 1));
        due(2, oneLost.broken(0, 2));
    }

    @Says("Each call of one of them that does not throw an exception is an action, also if nothing becomes different (undo is none).")
    static void anActionThatChangesNothing() {
        FrameCard x = new FrameCard();
        x.set(0, 2);
        x.set(1, 2);
        x.format(24);
        due(2, x.undo());
        due(1, x.undo());
        due(0, x.undo());
        state(x::undo);
    }

    @Says("(undo is none)")
    static void undoIsNoAction() {
        FrameCard x = new FrameCard();
        x.set(0, 3);
        x.set(0, 4);
        x.set(0, 5);
        due(2, x.undo());
        due(4, x.setting(0));
        due(1, x.undo());
        due(3, x.setting(0));
        x.set(0, 6);
        due(1, x.undo());
        due(3, x.setting(0));
        due(0, x.undo());
        due(2, x.setting(0));
    }

    @Says("Each call of one of them that does not throw an exception is an action")
    static void eachActionIsOneWhateverItTakes() {
        FrameCard x = new FrameCard();
        x.shoot(0);
        x.ticks(50);
        x.drop(0);
        x.format(8);
        x.set(2, 9);
        due(4, x.undo());
        due(8, x.about(11));
        due(3, x.undo());
        due(24, x.about(11));
        due(0, x.about(2));
        due(2, x.undo());
        due(1, x.about(2));
        due(1, x.undo());
        due(0, x.about(0));
        due(0, x.undo());
        due(0, x.about(1));
    }

    @Says("Each call of one of them that does not throw an exception is an action")
    static void aRefusedCallIsNoAction() {
        FrameCard x = new FrameCard();
        x.set(0, 3);
        argument(() -> x.shoot(-1));
        argument(() -> x.ticks(0));
        index(() -> x.drop(0));
        argument(() -> x.format(7));
        argument(() -> x.set(0, 9));
        due(0, x.undo());
        due(2, x.setting(0));
        state(x::undo);
        due(2, x.setting(0));
    }

    @Says("Before each action, the state is remembered.")
    static void rememberedBeforeTheAction() {
        FrameCard x = new FrameCard();
        x.shoot(7);
        x.undo();
        aboutIs(x, 0, 0, 0, 0, 0, 0, 0, 24, 0, 0, 0, 24, 0, 0);
    }

    private static void undoAll(int actions) {
        FrameCard x = new FrameCard();
        for (int k = 1; k <= actions; k++) {
            x.ticks(1);
        }
        int remembered = Math.min(actions, 14);
        for (int left = remembered - 1; left >= 0; left--) {
            due(left, x.undo());
            due(actions - remembered + left, x.about(0));
        }
        state(x::undo);
        due(actions - remembered, x.about(0));
    }

    @Says("At most 14 states are remembered")
    static void fourteenStatesAreRemembered() {
        undoAll(0);
        undoAll(1);
        undoAll(13);
        undoAll(14);
    }

    @Says("when one more is remembered, the oldest one is forgotten.")
    static void theFifteenthForgetsTheOldest() {
        undoAll(15);
        undoAll(16);
        undoAll(27);
        undoAll(28);
        undoAll(29);
        undoAll(100);
    }

    @Says("when one more is remembered, the oldest one is forgotten.")
    static void forgettingGoesOnBehindAnUndo() {
        FrameCard x = new FrameCard();
        for (int k = 0; k < 20; k++) {
            x.ticks(1);
        }
        for (int left = 13; left >= 9; left--) {
            due(left, x.undo());
        }
        for (int k = 0; k < 6; k++) {
            x.ticks(2);
        }
        int[] ticks = {25, 23, 21, 19, 17, 15, 14, 13, 12, 11, 10, 9, 8, 7};
        for (int k = 0; k < 14; k++) {
            due(13 - k, x.undo());
            due(ticks[k], x.about(0));
        }
        state(x::undo);
    }

    @Says("load and restore are not actions.")
    static void loadAndRestoreAreNoActions() {
        FrameCard x = text("C242204s000000");
        x.load();
        state(x::undo);
        x.save(0);
        x.restore(0);
        state(x::undo);
        due(1, x.about(1));
    }

    @Says("`NONE = -1`:")
    static void noneIsMinusOne() {
        due(-1, FrameCard.NONE);
    }
}
