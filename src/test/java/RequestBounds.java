/** The sentences on a new object, ask, giveBack and touch (promises 1, 2, 3 and 5). */
final class RequestBounds extends Bounds {
    private RequestBounds() {
    }

    // ---- promise 1

    static void p1APoolOfFreeBlocks() {
        says(1, "Creates a pool of free blocks");
        GuardedPool x = new GuardedPool();
        due("owned blocks", x.count(0), 0);
        due("free words", x.count(1), 64);
        for (int word = 0; word < 64; word++) {
            due("block of word " + word, x.word(word, 1), NONE);
            due("value of word " + word, x.word(word, 0), 0);
        }
    }

    static void p1FourGreatOnes() {
        says(1, "at first into four great ones");
        GuardedPool x = new GuardedPool();
        due("great ones", x.size(2, 0), 4);
        due("middle ones", x.size(1, 0), 0);
        due("small ones", x.size(0, 0), 0);
        for (int begin = 0; begin < 64; begin += 16) {
            due("a great one is taken", x.ask(begin / 32, 14), begin / 16);
            due("begins at", x.block(begin / 16, 0), begin);
        }
    }

    static void p1NothingHappenedSoFar() {
        says(1, "Creates a pool of free blocks");
        GuardedPool x = new GuardedPool();
        for (int what = 5; what <= 8; what++) {
            due("count(" + what + ")", x.count(what), 0);
        }
        for (int reason = 1; reason <= 3; reason++) {
            due("refused(" + reason + ")", x.refused(reason), 0);
        }
        for (int task = 0; task < 6; task++) {
            due("guards broken by " + task, x.task(task, 6), 0);
        }
    }

    static void p1TasksAreAlive() {
        says(1, "a task is alive (at first), or has ended");
        GuardedPool x = new GuardedPool();
        for (int task = 0; task < 6; task++) {
            due("task(" + task + ", 0)", x.task(task, 0), 1);
            due("live() so already", x.live(task, true), NONE);
        }
    }

    static void p1LimitsAre32() {
        says(1, "at first 32");
        GuardedPool x = new GuardedPool();
        for (int task = 0; task < 6; task++) {
            due("task(" + task + ", 4)", x.task(task, 4), 32);
            due("setLimit() so already", x.setLimit(task, 32), NONE);
        }
    }

    static void p1ClockIs0() {
        says(1, "There is a clock (0 at first");
        due("count(4)", new GuardedPool().count(4), 0);
    }

    static void p1PatienceIs50() {
        says(1, "at first 50");
        due("count(9)", new GuardedPool().count(9), 50);
        due("setPatience() so already", new GuardedPool().setPatience(50), NONE);
    }

    static void p1TextIsEmpty() {
        says(1, "There is a text of at most 60 characters, empty at first");
        due("count(11)", new GuardedPool().count(11), 0);
        due("clearText()", new GuardedPool().clearText(), 0);
        due("perform()", new GuardedPool().perform(), -100);
    }

    static void p1HistoryIsEmpty() {
        says(1, "A history of at most 4 states is kept");
        due("count(10)", new GuardedPool().count(10), 0);
        due("undo()", new GuardedPool().undo(), NONE);
    }

    static void p1SnapshotIsEmpty() {
        says(1, "There is one snapshot, empty at first");
        due("restore()", new GuardedPool().restore(), NONE);
    }

    static void p1ObjectsShareNothing() {
        says(1, "Creates a pool of free blocks");
        GuardedPool x = after(Bounds::busy);
        x.keep();
        GuardedPool y = new GuardedPool();
        due("owned blocks of the other", y.count(0), 0);
        due("states of the other", y.count(10), 0);
        due("text of the other", y.count(11), 0);
        due("snapshot of the other", y.restore(), NONE);
        y.ask(3, 14);
        due("the first has its own block still", x.block(0, 2), 0);
    }

    // ---- promise 2: arguments and what is returned

    static void p2TaskFrom0To5() {
        says(2, "`task`: 0 to 5");
        GuardedPool x = new GuardedPool();
        for (int task = 0; task <= 5; task++) {
            due("ask(" + task + ", 1)", x.ask(task, 1), task);
        }
        each("ask(.., 1)", NO_TASKS, task -> x.ask(task, 1), UNKNOWN);
    }

    static void p2SixTasks() {
        says(2, "There are 6 tasks, numbered from 0");
        due("the first", new GuardedPool().ask(0, 1), 0);
        due("the last", new GuardedPool().ask(5, 1), 0);
        due("no seventh", new GuardedPool().ask(6, 1), UNKNOWN);
    }

    static void p2WordsFrom1To14() {
        says(2, "`words`: 1 to 14");
        range("ask(0, ..)", 1, 14, words -> new GuardedPool().ask(0, words), BAD_VALUE);
        due("ask(0, 14)", new GuardedPool().ask(0, 14), 0);
    }

    static void p2AsksFor1To14Words() {
        says(2, "A request asks for 1 to 14 words: the block needs one word more ahead and one more behind, the guards");
        for (int words = 1; words <= 14; words++) {
            GuardedPool x = new GuardedPool();
            x.ask(0, words);
            for (int word = 0; word < 16; word++) {
                due("guard at " + word + " for " + words, x.word(word, 2), word == 0 || word == words + 1 ? 1 : 0);
            }
        }
    }

    static void p2Unknown() {
        says(2, "UNKNOWN");
        each("ask(.., 14)", NO_TASKS, task -> new GuardedPool().ask(task, 14), UNKNOWN);
    }

    static void p2BadValue() {
        says(2, "BAD_VALUE");
        due("ask(5, 0)", new GuardedPool().ask(5, 0), BAD_VALUE);
        due("ask(5, 15)", new GuardedPool().ask(5, 15), BAD_VALUE);
        due("ask(5, -1)", new GuardedPool().ask(5, -1), BAD_VALUE);
    }

    static void p2ReturnsItsNumber() {
        says(2, "Returns its number");
        GuardedPool x = new GuardedPool();
        int number = x.ask(4, 9);
        due("its task", x.block(number, 2), 4);
        due("its words", x.block(number, 3), 9);
    }

    static void p2NumbersInTheOrderOfGrants() {
        says(2, "it has a number (from 0, in the order of requests that were granted, at most 300 ever)");
        GuardedPool x = new GuardedPool();
        due("the first", x.ask(0, 14), 0);
        due("no words", x.ask(0, 0), BAD_VALUE);
        x.ask(1, 14);
        x.ask(1, 14);
        due("refused", x.ask(1, 14), REFUSED);
        due("a refused one took no number", x.ask(2, 1), 3);
        x.giveBack(2, 3);
        due("a number is not given again", x.ask(2, 1), 4);
        due("the old number is gone", x.block(3, 0), UNKNOWN);
    }

    static void p2AtMost300Ever() {
        says(2, "at most 300 ever");
        GuardedPool x = after(y -> grant(y, 299));
        due("granted", x.count(8), 299);
        due("the last number", x.ask(0, 1), 299);
        due("no more", x.ask(0, 1), FULL);
        x.giveBack(0, 299);
        due("no more with all blocks free", x.ask(1, 14), FULL);
        due("granted then", x.count(8), 300);
    }

    static void p2FullIf300WereGranted() {
        says(2, "FULL if 300 were granted already");
        due("behind 298", after(x -> grant(x, 298)).ask(5, 14), 298);
        due("behind 299", after(x -> grant(x, 299)).ask(5, 14), 299);
        due("behind 300", after(x -> grant(x, 300)).ask(5, 14), FULL);
    }

    static void p2Asks() {
        says(2, "Asks for a block");
        GuardedPool x = new GuardedPool();
        x.ask(3, 5);
        due("owned blocks", x.count(0), 1);
        due("blocks of the task", x.task(3, 1), 1);
        due("granted", x.count(8), 1);
    }

    // ---- promise 2: which block

    static void p2SmallestSizeThatHasSoManyWords() {
        says(2, "It gets a block of the smallest size that has so many words in all");
        int[] words = {1, 2, 3, 6, 7, 14};
        int[] sizes = {0, 0, 1, 1, 2, 2};
        for (int i = 0; i < words.length; i++) {
            GuardedPool x = new GuardedPool();
            x.ask(0, words[i]);
            due("size for " + words[i] + " words", x.block(0, 1), sizes[i]);
        }
    }

    static void p2SizesOf4And8And16Words() {
        says(2, "It is always cut into blocks of the sizes 4 (small), 8 (middle) and 16 (great)");
        int[] words = {2, 6, 14};
        int[] whole = {4, 8, 16};
        for (int size = 0; size < 3; size++) {
            GuardedPool x = new GuardedPool();
            x.ask(0, words[size]);
            due("words of size " + size, x.task(0, 2), whole[size]);
            due("the last word of it", x.word(whole[size] - 1, 1), 0);
            due("the first behind it", x.word(whole[size], 1), NONE);
        }
    }

    static void p2LowestOfTheFreeOnes() {
        says(2, "of the free blocks of this size the one that begins lowest");
        GuardedPool x = new GuardedPool();
        for (int i = 0; i < 4; i++) {
            x.ask(0, 1);
        }
        x.giveBack(0, 3);
        x.giveBack(0, 1);
        x.ask(0, 1);
        x.ask(0, 1);
        due("the lower one first, though it was freed last", x.block(4, 0), 4);
        due("then the upper one", x.block(5, 0), 12);
    }

    static void p2ThisSizeAheadOfALowerGreaterOne() {
        says(2, "of the free blocks of this size the one that begins lowest");
        GuardedPool x = new GuardedPool();
        x.ask(0, 14);
        x.ask(1, 1);
        x.giveBack(0, 0);
        x.ask(1, 1);
        due("small at 20, not the great one at 0", x.block(2, 0), 20);
        due("not one split more", x.count(5), 2);
    }

    static void p2LowestOfTheNextGreaterSize() {
        says(2, "without one, the lowest free block of the next greater size is split (as often as needed)");
        GuardedPool x = new GuardedPool();
        x.ask(0, 6);
        x.ask(1, 6);
        x.ask(2, 6);
        x.giveBack(1, 1);
        x.ask(3, 1);
        due("the middle one at 8, not that at 24", x.block(3, 0), 8);
        due("splits", x.count(5), 3);
        due("the other is whole", x.size(1, 2), 24);
    }

    static void p2NextGreaterSizeAheadOfALowerGreatOne() {
        says(2, "the lowest free block of the next greater size is split");
        GuardedPool x = new GuardedPool();
        x.ask(0, 14);
        x.ask(1, 6);
        x.giveBack(0, 0);
        x.ask(2, 1);
        due("the middle one at 24, not the great one at 0", x.block(2, 0), 24);
        due("splits", x.count(5), 2);
        due("the great one is whole", x.size(2, 2), 0);
    }

    static void p2SplitAsOftenAsNeeded() {
        says(2, "split (as often as needed), and its lower half is taken");
        int[] words = {2, 6, 14};
        int[] splits = {2, 1, 0};
        for (int i = 0; i < words.length; i++) {
            GuardedPool x = new GuardedPool();
            x.ask(0, words[i]);
            due("splits for " + words[i] + " words", x.count(5), splits[i]);
            due("begins at", x.block(0, 0), 0);
        }
    }

    static void p2LowerHalfIsTaken() {
        says(2, "and its lower half is taken");
        GuardedPool x = new GuardedPool();
        x.ask(0, 14);
        x.ask(0, 1);
        due("begins at", x.block(1, 0), 16);
        due("the upper small one is free", x.size(0, 2), 20);
        due("the upper middle one is free", x.size(1, 2), 24);
    }

    static void p2HalvesAreOfTheNextSmallerSize() {
        says(2, "A great block can be split into two middle ones, a middle one into two small ones");
        GuardedPool x = new GuardedPool();
        x.ask(0, 3);
        due("a great one less", x.size(2, 0), 3);
        due("one middle one is owned", x.size(1, 1), 1);
        due("one is free", x.size(1, 0), 1);
        x.ask(0, 1);
        due("no free middle one", x.size(1, 0), 0);
        due("one small one is owned", x.size(0, 1), 1);
        due("one is free", x.size(0, 0), 1);
    }

    static void p2OwnedByTheTask() {
        says(2, "The block is owned by the task then");
        GuardedPool x = new GuardedPool();
        x.ask(5, 2);
        due("its task", x.block(0, 2), 5);
        due("block of its words", x.word(3, 1), 0);
        due("it can give it back", x.giveBack(5, 0), 0);
    }

    static void p2GuardsAreWholeAndWordsAre0() {
        says(2, "its guards are whole, and its words are 0");
        GuardedPool x = new GuardedPool();
        x.ask(0, 14);
        for (int index = -1; index <= 14; index++) {
            x.write(0, 0, index, 99);
        }
        x.giveBack(0, 0);
        x.ask(1, 6);
        x.write(1, 1, 10, 98);
        x.ask(2, 6);
        due("guards of the first", x.block(1, 4), 0);
        due("guards of the second", x.block(2, 4), 0);
        for (int word = 0; word < 16; word++) {
            due("value of word " + word, x.word(word, 0), 0);
        }
    }

    // ---- promise 2: refusals

    static void p2Refused() {
        says(2, "REFUSED");
        due("ended", after(x -> x.live(0, false)).ask(0, 1), REFUSED);
        due("limit", after(x -> x.setLimit(0, 3)).ask(0, 1), REFUSED);
        due("no room", after(RequestBounds::fill).ask(2, 1), REFUSED);
    }

    /** All words are owned by tasks 0 and 1. */
    private static void fill(GuardedPool x) {
        for (int i = 0; i < 4; i++) {
            x.ask(i % 2, 14);
        }
    }

    static void p2RefusedIfEnded() {
        says(2, "1 the task has ended");
        GuardedPool x = after(y -> y.live(3, false));
        due("the ended one", x.ask(3, 1), REFUSED);
        due("its reason", x.refused(1), 1);
        due("another one", x.ask(2, 1), 0);
        x.live(3, true);
        due("alive again", x.ask(3, 1), 1);
    }

    static void p2RefusedBeyondTheLimit() {
        says(2, "2 the task would own more words (whole blocks) than its limit (0 to 64");
        int[] words = {1, 3, 7};
        int[] whole = {4, 8, 16};
        for (int i = 0; i < words.length; i++) {
            int asked = words[i];
            int limit = whole[i];
            due("just its words " + limit, after(x -> x.setLimit(0, limit)).ask(0, asked), 0);
            GuardedPool y = after(x -> x.setLimit(0, limit - 1));
            due("a word too few for " + limit, y.ask(0, asked), REFUSED);
            due("its reason", y.refused(2), 1);
        }
    }

    static void p2LimitCountsWhatIsOwned() {
        says(2, "the task would own more words (whole blocks) than its limit");
        GuardedPool x = new GuardedPool();
        x.setLimit(0, 20);
        due("16 of 20", x.ask(0, 7), 0);
        due("24 of 20", x.ask(0, 3), REFUSED);
        due("20 of 20", x.ask(0, 1), 1);
        due("another task's words don't count", x.ask(1, 14), 2);
        x.giveBack(0, 0);
        due("what was given back doesn't count", x.ask(0, 14), 3);
    }

    static void p2LimitAtFirstIsReached() {
        says(2, "at first 32");
        GuardedPool x = new GuardedPool();
        due("16 of 32", x.ask(0, 14), 0);
        due("32 of 32", x.ask(0, 14), 1);
        due("36 of 32", x.ask(0, 1), REFUSED);
    }

    static void p2LimitOf64IsAll() {
        says(2, "(0 to 64; at first 32)");
        GuardedPool x = new GuardedPool();
        x.setLimit(0, 64);
        for (int i = 0; i < 4; i++) {
            due("great one " + i, x.ask(0, 14), i);
        }
        x.setLimit(1, 0);
        due("limit 0", x.ask(1, 1), REFUSED);
        due("its reason", x.refused(2), 1);
    }

    static void p2RefusedWithoutRoom() {
        says(2, "3 there is no free block that is great enough");
        GuardedPool x = new GuardedPool();
        x.ask(0, 14);
        x.ask(0, 14);
        x.ask(1, 14);
        x.ask(1, 3);
        due("8 words free, great wanted", x.ask(2, 7), REFUSED);
        due("8 words free, middle wanted", x.ask(2, 6), 4);
        due("no word free", x.ask(2, 1), REFUSED);
        due("their reason", x.refused(3), 2);
    }

    static void p2FreeWordsApartAreNoRoom() {
        says(2, "there is no free block that is great enough");
        GuardedPool x = after(RequestBounds::fill);
        x.giveBack(0, 0);
        for (int i = 0; i < 4; i++) {
            x.ask(2, 1);
        }
        x.giveBack(2, 5);
        x.giveBack(2, 6);
        due("free words", x.count(1), 8);
        due("two neighbours that are no twins", x.ask(3, 3), REFUSED);
        due("a small one", x.ask(3, 2), 8);
    }

    static void p2FirstReasonThatHolds() {
        says(2, "It is refused for the first of these reasons that holds");
        GuardedPool x = after(RequestBounds::fill);
        due("limit ahead of room", x.ask(0, 1), REFUSED);
        due("counted for 2", x.refused(2), 1);
        due("not for 3", x.refused(3), 0);
        x.live(0, false);
        due("ended ahead of both", x.ask(0, 1), REFUSED);
        due("counted for 1", x.refused(1), 1);
        due("not for 2 again", x.refused(2), 1);
        x.live(2, false);
        due("ended ahead of room", x.ask(2, 1), REFUSED);
        due("counted for 1 again", x.refused(1), 2);
        due("never for 3", x.refused(3), 0);
    }

    // ---- promise 2: order, acts

    static void p2Order() {
        says(2, ORDER);
        GuardedPool x = after(y -> grant(y, 300));
        x.live(0, false);
        due("UNKNOWN ahead of BAD_VALUE", x.ask(6, 0), UNKNOWN);
        due("UNKNOWN ahead of FULL", x.ask(-1, 1), UNKNOWN);
        due("BAD_VALUE ahead of FULL", x.ask(1, 15), BAD_VALUE);
        due("BAD_VALUE ahead of REFUSED", x.ask(0, 0), BAD_VALUE);
        due("FULL ahead of REFUSED", x.ask(0, 1), FULL);
        due("what is FULL is not refused", x.refused(1), 0);
    }

    static void p2IsAnAct() {
        says(2, IS_AN_ACT);
        isOneAct("ask(2, 5)", Bounds::busy, x -> x.ask(2, 5), 3);
        isOneAct("ask(2, 5)", x -> { }, x -> x.ask(2, 5), 0);
    }

    static void p2ErrorsChangeNothing() {
        says(2, CHANGES_NOTHING);
        changesNothing("UNKNOWN", Bounds::busy, x -> x.ask(6, 1), UNKNOWN);
        changesNothing("BAD_VALUE", Bounds::busy, x -> x.ask(0, 15), BAD_VALUE);
        changesNothing("FULL", x -> grant(x, 300), x -> x.ask(0, 1), FULL);
        changesNothing("REFUSED, ended", Bounds::busy, x -> x.ask(5, 1), REFUSED);
        changesNothing("REFUSED, limit", x -> x.setLimit(0, 3), x -> x.ask(0, 1), REFUSED);
        changesNothing("REFUSED, room", RequestBounds::fill, x -> x.ask(2, 1), REFUSED);
    }

    static void p2ButForWhatRefusedTells() {
        says(2, "(but for what refused() and stopped() tell)");
        GuardedPool x = after(Bounds::busy);
        x.ask(5, 1);
        due("refused(1)", x.refused(1), 1);
    }

    // ---- promise 3

    static void p3TaskFrom0To5() {
        says(3, "`task`: 0 to 5: the task that gives it back");
        GuardedPool x = new GuardedPool();
        for (int task = 0; task <= 5; task++) {
            x.ask(task, 1);
            due("giveBack(" + task + ", its block)", x.giveBack(task, task), 0);
        }
        x.ask(0, 1);
        each("giveBack(.., 6)", NO_TASKS, task -> x.giveBack(task, 6), UNKNOWN);
    }

    static void p3BlockThatIsOwned() {
        says(3, "`block`: a block that is owned");
        GuardedPool x = new GuardedPool();
        due("before any", x.giveBack(0, 0), UNKNOWN);
        x.ask(0, 1);
        due("the next number", x.giveBack(0, 1), UNKNOWN);
        each("giveBack(0, ..)", NO_BLOCKS, block -> x.giveBack(0, block), UNKNOWN);
        due("owned", x.giveBack(0, 0), 0);
    }

    static void p3TheLastNumber() {
        says(3, "at most 300 ever");
        GuardedPool x = after(y -> grant(y, 299));
        x.ask(4, 1);
        due("block 299", x.giveBack(4, 299), 0);
        due("block 300", x.giveBack(4, 300), UNKNOWN);
    }

    static void p3GivesBack() {
        says(3, "Gives a block back");
        GuardedPool x = after(y -> y.ask(0, 14));
        x.giveBack(0, 0);
        due("owned blocks", x.count(0), 0);
        due("words of the task", x.task(0, 2), 0);
    }

    static void p3HowManyGuardsAreBroken() {
        says(3, "Returns how many of its guards are broken");
        int[][] indices = {{}, {-1}, {2}, {-1, 2}, {2, 2}, {0, 1}};
        int[] broken = {0, 1, 1, 2, 1, 0};
        for (int i = 0; i < indices.length; i++) {
            GuardedPool x = after(y -> y.ask(0, 2));
            for (int index : indices[i]) {
                x.write(0, 0, index, 1);
            }
            due("writes " + i, x.giveBack(0, 0), broken[i]);
        }
    }

    static void p3GuardsBrokenByOthers() {
        says(3, "Returns how many of its guards are broken");
        GuardedPool x = new GuardedPool();
        x.ask(0, 2);
        x.ask(1, 2);
        x.write(0, 0, 3, 9);
        x.write(0, 0, 6, 9);
        due("the writer's", x.giveBack(0, 0), 0);
        due("the other's", x.giveBack(1, 1), 2);
    }

    static void p3ToldAndCounted() {
        says(3, "When a block is given back, its guards are looked at: if any is broken, this is told, and counted");
        GuardedPool x = new GuardedPool();
        x.ask(0, 2);
        x.ask(0, 2);
        x.ask(0, 2);
        x.write(0, 0, 2, 9);
        x.write(0, 1, -1, 9);
        x.write(0, 1, 2, 9);
        due("not counted before", x.count(7), 0);
        x.giveBack(0, 2);
        due("none", x.count(7), 0);
        x.giveBack(0, 0);
        due("one", x.count(7), 1);
        x.giveBack(0, 1);
        due("two more", x.count(7), 3);
    }

    static void p3ThenItIsFree() {
        says(3, "then it is free, and joined as told");
        GuardedPool x = after(y -> y.ask(0, 14));
        x.write(0, 0, 3, 9);
        x.giveBack(0, 0);
        for (int word = 0; word < 16; word++) {
            due("block of word " + word, x.word(word, 1), NONE);
            due("guard at " + word, x.word(word, 2), 0);
            due("value of word " + word, x.word(word, 0), 0);
        }
        due("free words", x.count(1), 64);
    }

    static void p3UnknownTaskOrBlock() {
        says(3, "UNKNOWN (task or block)");
        GuardedPool x = after(y -> y.ask(0, 1));
        due("the task", x.giveBack(6, 0), UNKNOWN);
        due("the block", x.giveBack(0, 1), UNKNOWN);
        due("both", x.giveBack(-1, -1), UNKNOWN);
    }

    static void p3Twice() {
        says(3, "UNKNOWN (task or block)");
        GuardedPool x = after(y -> y.ask(0, 1));
        due("once", x.giveBack(0, 0), 0);
        due("twice", x.giveBack(0, 0), UNKNOWN);
        x.ask(0, 1);
        due("its place is owned again", x.giveBack(0, 0), UNKNOWN);
        x.live(0, false);
        x.sweep();
        due("behind a sweep", x.giveBack(0, 1), UNKNOWN);
    }

    static void p3NotItsOwner() {
        says(3, "NOT_POSSIBLE if the task does not own it");
        GuardedPool x = after(y -> y.ask(3, 1));
        for (int task = 0; task < 6; task++) {
            if (task != 3) {
                due("giveBack(" + task + ", 0)", x.giveBack(task, 0), NOT_POSSIBLE);
            }
        }
    }

    static void p3OnlyItsOwner() {
        says(3, "Only its owner can give it back");
        GuardedPool x = after(y -> y.ask(3, 1));
        x.live(3, false);
        due("another, though it is a leak", x.giveBack(2, 0), NOT_POSSIBLE);
        due("owned still", x.block(0, 2), 3);
    }

    static void p3AnEndedTaskOwnsStill() {
        says(3, "a task that ended owns its blocks still");
        GuardedPool x = after(y -> y.ask(3, 1));
        x.live(3, false);
        due("its task", x.block(0, 2), 3);
        due("it gives it back", x.giveBack(3, 0), 0);
    }

    static void p3TwinsAreJoined() {
        says(3, "Two blocks that came from one are twins; as soon as both are free, they are joined again to one free block");
        for (int last = 0; last < 2; last++) {
            GuardedPool x = after(y -> y.ask(0, 6));
            x.ask(0, 6);
            x.giveBack(0, 1 - last);
            due("one of them", x.count(6), 0);
            x.giveBack(0, last);
            due("both", x.count(6), 1);
            due("a great one", x.size(2, 0), 4);
            due("no middle one", x.size(1, 0), 0);
        }
    }

    static void p3NeighboursAreNoTwins() {
        says(3, "Two blocks that came from one are twins");
        GuardedPool x = new GuardedPool();
        for (int i = 0; i < 4; i++) {
            x.ask(0, 1);
        }
        x.giveBack(0, 1);
        x.giveBack(0, 2);
        due("small ones at 4 and 8", x.count(6), 0);
        due("two free small ones", x.size(0, 0), 2);
        GuardedPool y = new GuardedPool();
        for (int i = 0; i < 4; i++) {
            y.ask(0, 6);
        }
        y.giveBack(0, 1);
        y.giveBack(0, 2);
        due("middle ones at 8 and 16", y.count(6), 0);
        due("two free middle ones", y.size(1, 0), 2);
    }

    static void p3ATwinInPiecesWaits() {
        says(3, "as soon as both are free");
        GuardedPool x = new GuardedPool();
        x.ask(0, 1);
        x.ask(0, 6);
        x.giveBack(0, 1);
        due("the half of the twin is owned", x.count(6), 0);
        due("a free middle one at 8", x.size(1, 2), 8);
        x.giveBack(0, 0);
        due("two joins then", x.count(6), 2);
    }

    static void p3GoesOnAsFarAsItCan() {
        says(3, "and this goes on as far as it can");
        for (int word = 0; word < 16; word += 4) {
            GuardedPool x = new GuardedPool();
            for (int i = 0; i < 4; i++) {
                x.ask(0, 1);
            }
            for (int i = 0; i < 4; i++) {
                if (i != word / 4) {
                    x.giveBack(0, i);
                }
            }
            due("the other two were joined, last at " + word, x.count(6), 1);
            x.giveBack(0, word / 4);
            due("two joins more", x.count(6), 3);
            due("a great one at 0", x.size(2, 2), 0);
            due("four great ones, no greater", x.size(2, 0), 4);
        }
    }

    static void p3Order() {
        says(3, ORDER);
        GuardedPool x = after(y -> y.ask(0, 1));
        due("no block, that task 1 would not own", x.giveBack(1, 1), UNKNOWN);
        due("no task, that does not own it", x.giveBack(6, 0), UNKNOWN);
    }

    static void p3IsAnAct() {
        says(3, IS_AN_ACT);
        isOneAct("giveBack(0, 0)", Bounds::busy, x -> x.giveBack(0, 0), 1);
        isOneAct("giveBack(5, 2)", Bounds::busy, x -> x.giveBack(5, 2), 0);
    }

    static void p3ErrorsChangeNothing() {
        says(3, CHANGES_NOTHING);
        changesNothing("UNKNOWN task", Bounds::busy, x -> x.giveBack(6, 0), UNKNOWN);
        changesNothing("UNKNOWN block", Bounds::busy, x -> x.giveBack(0, 3), UNKNOWN);
        changesNothing("NOT_POSSIBLE", Bounds::busy, x -> x.giveBack(1, 0), NOT_POSSIBLE);
    }

    // ---- promise 5

    static void p5BlockThatIsOwned() {
        says(5, "`block`: a block that is owned");
        GuardedPool x = new GuardedPool();
        due("before any", x.touch(0), UNKNOWN);
        x.ask(0, 1);
        x.pass(1);
        each("touch(..)", NO_BLOCKS, x::touch, UNKNOWN);
        due("the next number", x.touch(1), UNKNOWN);
        due("owned", x.touch(0), 1);
    }

    static void p5Unknown() {
        says(5, "UNKNOWN");
        GuardedPool x = after(y -> y.ask(0, 1));
        x.giveBack(0, 0);
        x.pass(1);
        due("given back", x.touch(0), UNKNOWN);
    }

    static void p5HowLongItWasNotUsed() {
        says(5, "Returns how long it was not used");
        GuardedPool x = after(y -> y.ask(0, 1));
        x.pass(1);
        due("a tick", x.touch(0), 1);
        x.pass(500);
        x.pass(499);
        due("since it was touched", x.touch(0), 999);
        x.pass(7);
        x.write(0, 0, 0, 1);
        x.pass(2);
        due("since it was written", x.touch(0), 2);
    }

    static void p5ItIsUsedNow() {
        says(5, "Touches a block: it is used now");
        GuardedPool x = after(y -> y.ask(0, 1));
        x.ask(0, 1);
        x.pass(50);
        due("a leak", x.block(0, 6), 1);
        x.touch(0);
        due("age", x.block(0, 5), 0);
        due("no leak", x.block(0, 6), 0);
        due("the other is one", x.block(1, 6), 1);
    }

    static void p5NoneAtThisTick() {
        says(5, "NONE if it was used at this tick already");
        GuardedPool x = after(y -> y.ask(0, 1));
        due("asked for", x.touch(0), NONE);
        x.pass(3);
        x.touch(0);
        due("touched", x.touch(0), NONE);
        x.pass(3);
        x.write(0, 0, 0, 1);
        due("written", x.touch(0), NONE);
    }

    static void p5OfAnEndedTask() {
        says(5, "It is a leak if its task has ended");
        GuardedPool x = after(y -> y.ask(0, 1));
        x.pass(4);
        x.live(0, false);
        due("touch(0)", x.touch(0), 4);
        due("a leak still", x.block(0, 6), 1);
    }

    static void p5IsAnAct() {
        says(5, IS_AN_ACT);
        isOneAct("touch(1)", Bounds::busy, x -> x.touch(1), 9);
    }

    static void p5ErrorsAndNoneChangeNothing() {
        says(5, CHANGES_NOTHING);
        changesNothing("UNKNOWN", Bounds::busy, x -> x.touch(3), UNKNOWN);
        changesNothing("NONE", Bounds::busy, x -> x.touch(2), NONE);
    }
}
