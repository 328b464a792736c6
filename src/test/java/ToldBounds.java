import java.util.function.ToIntFunction;

/** The sentences on what is told (promises 18 to 26), and on the constants. */
final class ToldBounds extends Bounds {
    private static final int LEAST = Integer.MIN_VALUE;
    private static final int MOST = Integer.MAX_VALUE;

    private ToldBounds() {
    }

    /** Each number from 0 to the most is told, those beside are BAD_VALUE. */
    private static void whats(String call, int most, ToIntFunction<Integer> answer) {
        for (int what = 0; what <= most; what++) {
            due(call + " with " + what, answer.applyAsInt(what) != BAD_VALUE);
        }
        each(call, new int[] {-1, most + 1, LEAST, MOST}, answer, BAD_VALUE);
    }

    // ---- the constants

    static void p2TheConstants() {
        says(2, "Errors are reported by the constants below");
        due("UNKNOWN", GuardedPool.UNKNOWN, -1);
        due("BAD_VALUE", GuardedPool.BAD_VALUE, -2);
        due("FULL", GuardedPool.FULL, -3);
        due("NOT_POSSIBLE", GuardedPool.NOT_POSSIBLE, -4);
        due("NONE", GuardedPool.NONE, -5);
        due("REFUSED", GuardedPool.REFUSED, -6);
    }

    static void p18UnknownIsNoSuchBlock() {
        says(18, "The constants: `UNKNOWN = -1`: There is no such task, block that is owned, word or size");
        GuardedPool x = new GuardedPool();
        due("task", x.task(6, 0), -1);
        due("block", x.block(0, 0), -1);
        due("word", x.word(64, 0), -1);
        due("size", x.size(3, 0), -1);
    }

    static void p26BadValueIsAnotherArgument() {
        says(26, "`BAD_VALUE = -2`: Another argument is out of range");
        due("count(12)", new GuardedPool().count(12), -2);
    }

    static void p2FullIsNoMoreRoom() {
        says(2, "`FULL = -3`: There is no more room");
        due("a text", after(x -> Due.put(x, "x".repeat(60))).type('x'), -3);
        due("the numbers", after(x -> grant(x, 300)).ask(0, 1), -3);
    }

    static void p4NotPossibleIsNotPossible() {
        says(4, "`NOT_POSSIBLE = -4`: This is not possible");
        due("another's block", after(x -> x.ask(0, 1)).write(1, 0, 0, 1), -4);
    }

    static void p23NoneIsNoError() {
        says(23, "`NONE = -5`: There is no such thing; not an error");
        due("leak(0)", new GuardedPool().leak(0), -5);
    }

    static void p2RefusedIsARefusal() {
        says(2, "`REFUSED = -6`: The request is refused");
        due("ask(0, 1)", after(x -> x.setLimit(0, 0)).ask(0, 1), -6);
    }

    static void p7NoneOnlyIfNoErrorApplies() {
        says(7, "NONE is no error; it is returned only if no error applies");
        due("setLimit(6, 32)", new GuardedPool().setLimit(6, 32), UNKNOWN);
        due("live(6, true)", new GuardedPool().live(6, true), UNKNOWN);
        due("leak(-1)", new GuardedPool().leak(-1), BAD_VALUE);
        due("stopped(2)", new GuardedPool().stopped(2), BAD_VALUE);
    }

    static void p2WhereSeveralErrorsApply() {
        says(2, "Where several errors can apply, the order of the @return line is the order of the checks");
        due("ask(6, 0)", new GuardedPool().ask(6, 0), UNKNOWN);
        due("ask(0, 0) of an ended task", after(x -> x.live(0, false)).ask(0, 0), BAD_VALUE);
    }

    // ---- promise 18

    static void p18BlockThatIsOwned() {
        says(18, "`block`: a block that is owned");
        GuardedPool x = new GuardedPool();
        due("before any", x.block(0, 0), UNKNOWN);
        x.ask(0, 1);
        due("owned", x.block(0, 0), 0);
        each("block(.., 0)", NO_BLOCKS, block -> x.block(block, 0), UNKNOWN);
        x.giveBack(0, 0);
        due("given back", x.block(0, 0), UNKNOWN);
    }

    static void p18TheLastNumber() {
        says(18, "`block`: a block that is owned");
        GuardedPool x = after(y -> grant(y, 299));
        x.ask(4, 14);
        due("block(299, 2)", x.block(299, 2), 4);
        due("block(300, 2)", x.block(300, 2), UNKNOWN);
    }

    static void p18What() {
        says(18, "BAD_VALUE");
        GuardedPool x = after(Bounds::busy);
        whats("block(0, ..)", 6, what -> x.block(0, what));
    }

    static void p18Begin() {
        says(18, "`what`: 0 for the word at which it begins");
        GuardedPool x = after(Bounds::busy);
        int[] begins = {0, 8, 16};
        for (int block = 0; block < 3; block++) {
            due("block " + block, x.block(block, 0), begins[block]);
        }
    }

    static void p18BeginsAtAMultipleOfItsSize() {
        says(18, "A block begins at a multiple of its size");
        int[][] asked = {{1, 3, 1, 7, 3, 1}, {7, 1, 3, 1, 3, 7}, {3, 1, 7, 3, 1, 1}};
        for (int[] words : asked) {
            GuardedPool x = new GuardedPool();
            for (int task = 0; task < 6; task++) {
                int block = x.ask(task, words[task]);
                due("rest for " + words[task], x.block(block, 0) % (4 << x.block(block, 1)), 0);
            }
        }
    }

    static void p18Size() {
        says(18, "1 for its size (0 to 2)");
        GuardedPool x = new GuardedPool();
        x.ask(0, 2);
        x.ask(0, 6);
        x.ask(0, 14);
        for (int block = 0; block < 3; block++) {
            due("block " + block, x.block(block, 1), block);
        }
    }

    static void p18Task() {
        says(18, "2 for its task");
        GuardedPool x = new GuardedPool();
        for (int task = 0; task < 6; task++) {
            x.ask(5 - task, 1);
            due("block " + task, x.block(task, 2), 5 - task);
        }
    }

    static void p18WordsAskedFor() {
        says(18, "3 for the words that were asked for");
        for (int words = 1; words <= 14; words++) {
            GuardedPool x = new GuardedPool();
            x.ask(0, words);
            due("block(0, 3)", x.block(0, 3), words);
        }
    }

    static void p18BrokenGuards() {
        says(18, "4 for how many of its guards are broken");
        GuardedPool x = after(y -> y.ask(0, 2));
        due("none", x.block(0, 4), 0);
        x.write(0, 0, 2, 1);
        due("one", x.block(0, 4), 1);
        x.write(0, 0, 2, 1);
        due("the same", x.block(0, 4), 1);
        x.write(0, 0, -1, 1);
        due("two", x.block(0, 4), 2);
    }

    static void p18HowLongItWasNotUsed() {
        says(18, "5 for how long it was not used");
        GuardedPool x = after(y -> y.pass(5));
        x.ask(0, 2);
        due("at once", x.block(0, 5), 0);
        x.pass(1);
        due("a tick later", x.block(0, 5), 1);
        x.pass(70);
        due("71 ticks later", x.block(0, 5), 71);
    }

    static void p18UsedAtTheTimeAtWhichItWasAskedFor() {
        says(18, "A block is used at the time at which it was asked for, named in write() by its owner"
            + " (whatever word is written), or touched");
        GuardedPool x = after(y -> y.pass(30));
        x.ask(0, 2);
        x.ask(1, 2);
        x.ask(2, 2);
        x.pass(10);
        x.write(0, 0, 0, 1);
        x.touch(1);
        x.giveBack(0, 2);
        x.write(0, 2, 0, 1);
        x.pass(1);
        int[] ages = {1, 1, 11};
        for (int block = 0; block < 3; block++) {
            due("block " + block, x.block(block, 5), ages[block]);
        }
    }

    static void p18Leak() {
        says(18, "6 for whether it is a leak (1, otherwise 0)");
        GuardedPool x = after(y -> y.ask(0, 2));
        due("at once", x.block(0, 6), 0);
        x.pass(49);
        due("a tick too few", x.block(0, 6), 0);
        x.pass(1);
        due("at the patience", x.block(0, 6), 1);
        x.touch(0);
        due("touched", x.block(0, 6), 0);
        x.live(0, false);
        due("ended", x.block(0, 6), 1);
    }

    static void p18Returns() {
        says(18, "Returns the number");
        due("task of block 2", after(Bounds::busy).block(2, 2), 5);
    }

    static void p18Unknown() {
        says(18, "UNKNOWN");
        GuardedPool x = after(Bounds::busy);
        due("the next number", x.block(3, 0), UNKNOWN);
        x.sweep();
        due("swept", x.block(2, 0), UNKNOWN);
        x.undo();
        due("swept not", x.block(2, 0), 16);
    }

    static void p18Order() {
        says(18, ORDER);
        due("block(3, 7)", after(Bounds::busy).block(3, 7), UNKNOWN);
        due("block(-1, -1)", after(Bounds::busy).block(-1, -1), UNKNOWN);
    }

    static void p18ChangesNothing() {
        says(18, CHANGES_NOTHING);
        changesNothing("UNKNOWN", Bounds::busy, x -> x.block(3, 0), UNKNOWN);
        changesNothing("BAD_VALUE", Bounds::busy, x -> x.block(0, 7), BAD_VALUE);
    }

    // ---- promise 19

    static void p19WordFrom0To63() {
        says(19, "`word`: 0 to 63");
        range("word(.., 0)", 0, 63, word -> new GuardedPool().word(word, 0), UNKNOWN);
    }

    static void p19The64Words() {
        says(19, "The pool has 64 words, numbered from 0");
        GuardedPool x = new GuardedPool();
        for (int word = 0; word < 64; word++) {
            due("word(" + word + ", 3)", x.word(word, 3), 2);
        }
        due("word(64, 3)", x.word(64, 3), UNKNOWN);
    }

    static void p19What() {
        says(19, "BAD_VALUE");
        GuardedPool x = after(Bounds::busy);
        whats("word(0, ..)", 3, what -> x.word(0, what));
        whats("word(63, ..)", 3, what -> x.word(63, what));
    }

    static void p19Value() {
        says(19, "`what`: 0 for its value (0 of a guard that is whole, and in a free block)");
        GuardedPool x = after(Bounds::busy);
        x.write(0, 0, 3, 44);
        int[] values = {0, 7, 0, 8, 0};
        for (int word = 0; word < values.length; word++) {
            due("word " + word, x.word(word, 0), values[word]);
        }
        x.giveBack(0, 0);
        for (int word = 0; word < values.length; word++) {
            due("free word " + word, x.word(word, 0), 0);
        }
    }

    static void p19Block() {
        says(19, "1 for the number of its block (NONE if it is free)");
        GuardedPool x = after(Bounds::busy);
        int[] words = {0, 3, 4, 7, 8, 15, 16, 31, 32, 63};
        int[] blocks = {0, 0, NONE, NONE, 1, 1, 2, 2, NONE, NONE};
        for (int i = 0; i < words.length; i++) {
            due("word " + words[i], x.word(words[i], 1), blocks[i]);
        }
    }

    static void p19Guard() {
        says(19, "2 for whether it is a guard (1, otherwise 0)");
        GuardedPool x = after(Bounds::busy);
        int[] words = {0, 1, 2, 3, 4, 7, 8, 9, 12, 13, 14, 15, 16, 17, 30, 31, 32, 63};
        int[] guards = {1, 0, 0, 1, 0, 0, 1, 0, 0, 1, 0, 0, 1, 0, 0, 1, 0, 0};
        for (int i = 0; i < words.length; i++) {
            due("word " + words[i], x.word(words[i], 2), guards[i]);
        }
    }

    static void p19Size() {
        says(19, "3 for the size of its block");
        GuardedPool x = after(Bounds::busy);
        int[] words = {0, 3, 4, 7, 8, 15, 16, 31, 32, 63};
        int[] sizes = {0, 0, 0, 0, 1, 1, 2, 2, 2, 2};
        for (int i = 0; i < words.length; i++) {
            due("word " + words[i], x.word(words[i], 3), sizes[i]);
        }
    }

    static void p19Returns() {
        says(19, "Returns the number");
        due("value of word 1", after(Bounds::busy).word(1, 0), 7);
    }

    static void p19Unknown() {
        says(19, "UNKNOWN");
        int[] words = {-1, 64, LEAST, MOST};
        for (int what = 0; what < 4; what++) {
            int told = what;
            each("word(.., " + what + ")", words, word -> new GuardedPool().word(word, told), UNKNOWN);
        }
    }

    static void p19Order() {
        says(19, ORDER);
        due("word(64, 4)", new GuardedPool().word(64, 4), UNKNOWN);
        due("word(-1, -1)", new GuardedPool().word(-1, -1), UNKNOWN);
    }

    static void p19ChangesNothing() {
        says(19, CHANGES_NOTHING);
        changesNothing("UNKNOWN", Bounds::busy, x -> x.word(64, 0), UNKNOWN);
        changesNothing("BAD_VALUE", Bounds::busy, x -> x.word(0, 4), BAD_VALUE);
        changesNothing("NONE", Bounds::busy, x -> x.word(63, 1), NONE);
    }

    // ---- promise 20

    static void p20TaskFrom0To5() {
        says(20, "`task`: 0 to 5");
        range("task(.., 1)", 0, 5, task -> new GuardedPool().task(task, 1), UNKNOWN);
    }

    static void p20What() {
        says(20, "BAD_VALUE");
        GuardedPool x = after(Bounds::busy);
        whats("task(0, ..)", 6, what -> x.task(0, what));
        whats("task(5, ..)", 6, what -> x.task(5, what));
    }

    static void p20Alive() {
        says(20, "`what`: 0 for whether it is alive (1, otherwise 0)");
        GuardedPool x = after(Bounds::busy);
        due("alive", x.task(4, 0), 1);
        due("ended", x.task(5, 0), 0);
    }

    static void p20Blocks() {
        says(20, "1 for its blocks");
        GuardedPool x = after(Bounds::busy);
        due("none", x.task(2, 1), 0);
        due("one", x.task(0, 1), 1);
        due("one of an ended task", x.task(5, 1), 1);
        x.ask(0, 1);
        due("two", x.task(0, 1), 2);
        x.giveBack(0, 0);
        due("one again", x.task(0, 1), 1);
    }

    static void p20WordsOfThese() {
        says(20, "2 for the words of these");
        GuardedPool x = after(Bounds::busy);
        int[] words = {4, 8, 0, 0, 0, 16};
        for (int task = 0; task < 6; task++) {
            due("task " + task, x.task(task, 2), words[task]);
        }
        x.ask(1, 14);
        due("of two blocks", x.task(1, 2), 24);
    }

    static void p20WordsAskedFor() {
        says(20, "3 for the words that it asked for in them");
        GuardedPool x = after(Bounds::busy);
        int[] words = {2, 4, 0, 0, 0, 14};
        for (int task = 0; task < 6; task++) {
            due("task " + task, x.task(task, 3), words[task]);
        }
        x.ask(1, 9);
        due("in two blocks", x.task(1, 3), 13);
        x.giveBack(1, 1);
        due("not in what was given back", x.task(1, 3), 9);
    }

    static void p20Limit() {
        says(20, "4 for its limit");
        GuardedPool x = new GuardedPool();
        x.setLimit(4, 64);
        due("its own", x.task(4, 4), 64);
        due("another's", x.task(3, 4), 32);
    }

    static void p20Leaks() {
        says(20, "5 for its leaks");
        GuardedPool x = after(Bounds::busy);
        due("of the ended one", x.task(5, 5), 1);
        due("none", x.task(0, 5), 0);
        x.pass(40);
        due("a tick too few", x.task(1, 5), 0);
        x.ask(1, 1);
        x.pass(1);
        due("by age, one of two", x.task(1, 5), 1);
        due("of the ended one", x.task(5, 5), 1);
        due("without blocks", x.task(2, 5), 0);
    }

    static void p20GuardsThatItBroke() {
        says(20, "6 for the guards that it broke so far (each once, as it breaks)");
        GuardedPool x = after(y -> y.ask(0, 2));
        x.ask(1, 2);
        x.write(0, 0, 2, 1);
        due("one", x.task(0, 6), 1);
        x.write(0, 0, 2, 2);
        due("once", x.task(0, 6), 1);
        x.write(1, 1, -2, 3);
        due("one that was broken is not the second's", x.task(1, 6), 0);
        x.write(1, 1, -1, 3);
        due("its own", x.task(1, 6), 1);
        x.write(0, 0, 3, 3);
        due("and not the first's", x.task(0, 6), 1);
        x.write(0, 0, 6, 3);
        due("of another's block", x.task(0, 6), 2);
    }

    static void p20GuardsStayCounted() {
        says(20, "6 for the guards that it broke so far");
        GuardedPool x = after(y -> y.ask(0, 2));
        x.write(0, 0, 2, 1);
        x.giveBack(0, 0);
        due("given back", x.task(0, 6), 1);
        x.ask(0, 2);
        x.write(0, 1, 2, 1);
        due("a new guard at the same word", x.task(0, 6), 2);
    }

    static void p20Returns() {
        says(20, "Returns the number");
        due("words of task 5", after(Bounds::busy).task(5, 2), 16);
    }

    static void p20Unknown() {
        says(20, "UNKNOWN");
        for (int what = 0; what < 7; what++) {
            int told = what;
            each("task(.., " + what + ")", NO_TASKS, task -> new GuardedPool().task(task, told), UNKNOWN);
        }
    }

    static void p20Order() {
        says(20, ORDER);
        due("task(6, 7)", new GuardedPool().task(6, 7), UNKNOWN);
        due("task(-1, -1)", new GuardedPool().task(-1, -1), UNKNOWN);
    }

    static void p20ChangesNothing() {
        says(20, CHANGES_NOTHING);
        changesNothing("UNKNOWN", Bounds::busy, x -> x.task(6, 0), UNKNOWN);
        changesNothing("BAD_VALUE", Bounds::busy, x -> x.task(0, 7), BAD_VALUE);
    }

    // ---- promise 21

    static void p21TaskFrom0To5() {
        says(21, "`task`: 0 to 5");
        range("reason(.., 1)", 0, 5, task -> new GuardedPool().reason(task, 1), UNKNOWN);
    }

    static void p21WordsFrom1To14() {
        says(21, "`words`: 1 to 14");
        range("reason(0, ..)", 1, 14, words -> new GuardedPool().reason(0, words), BAD_VALUE);
    }

    static void p21Return0() {
        says(21, "Returns 0 it would not be");
        GuardedPool x = new GuardedPool();
        for (int words = 1; words <= 14; words++) {
            due("reason(5, " + words + ")", x.reason(5, words), 0);
        }
        x.setLimit(0, 16);
        due("just the limit", x.reason(0, 14), 0);
    }

    static void p21TheReason() {
        says(21, "1, 2 or 3 for the reason");
        GuardedPool x = new GuardedPool();
        for (int i = 0; i < 4; i++) {
            x.ask(i / 2, 14);
        }
        due("no room", x.reason(2, 1), 3);
        due("limit ahead of room", x.reason(0, 1), 2);
        x.live(0, false);
        due("ended ahead of both", x.reason(0, 1), 1);
        x.giveBack(0, 0);
        x.setLimit(2, 15);
        due("the limit", x.reason(2, 14), 2);
        due("within it", x.reason(2, 6), 0);
        due("ended, within the limit, with room", x.reason(0, 1), 1);
    }

    static void p21TellsWhyARequestWouldBeRefused() {
        says(21, "Tells why a request would be refused");
        GuardedPool x = after(y -> y.setLimit(0, 3));
        due("reason(0, 1)", x.reason(0, 1), 2);
        due("and it is", x.ask(0, 1), REFUSED);
        due("by ask() alone it is counted", x.refused(2), 1);
        due("reason(1, 1)", x.reason(1, 1), 0);
        due("nothing was granted", x.count(8), 0);
    }

    static void p21The300DoNotMatter() {
        says(21, "(the 300 do not matter)");
        GuardedPool x = after(y -> grant(y, 300));
        due("ask(1, 14)", x.ask(1, 14), FULL);
        due("reason(1, 14)", x.reason(1, 14), 0);
        x.live(1, false);
        due("ended", x.reason(1, 14), 1);
    }

    static void p21Unknown() {
        says(21, "UNKNOWN");
        each("reason(.., 14)", NO_TASKS, task -> new GuardedPool().reason(task, 14), UNKNOWN);
    }

    static void p21BadValue() {
        says(21, "BAD_VALUE");
        due("reason(5, 0)", new GuardedPool().reason(5, 0), BAD_VALUE);
        due("reason(5, 15)", new GuardedPool().reason(5, 15), BAD_VALUE);
        due("of an ended task", after(x -> x.live(5, false)).reason(5, 15), BAD_VALUE);
    }

    static void p21Order() {
        says(21, ORDER);
        due("reason(6, 0)", new GuardedPool().reason(6, 0), UNKNOWN);
        due("reason(-1, 15)", new GuardedPool().reason(-1, 15), UNKNOWN);
    }

    static void p21ChangesNothing() {
        says(21, CHANGES_NOTHING);
        changesNothing("UNKNOWN", Bounds::busy, x -> x.reason(6, 1), UNKNOWN);
        changesNothing("BAD_VALUE", Bounds::busy, x -> x.reason(0, 15), BAD_VALUE);
        changesNothing("a reason", Bounds::busy, x -> x.reason(5, 1), 1);
    }

    // ---- promise 22

    static void p22TaskFrom0To5() {
        says(22, "`task`: 0 to 5");
        range("greatest(..)", 0, 5, task -> new GuardedPool().greatest(task), UNKNOWN);
    }

    static void p22TheGreatestRequest() {
        says(22, "Tells the greatest request of a task that would not be refused");
        int[] limits = {0, 3, 4, 7, 8, 15, 16, 64};
        int[] words = {NONE, NONE, 2, 2, 6, 6, 14, 14};
        for (int i = 0; i < limits.length; i++) {
            int limit = limits[i];
            due("limit " + limit, after(x -> x.setLimit(0, limit)).greatest(0), words[i]);
        }
    }

    static void p22ByRoom() {
        says(22, "Returns the words");
        GuardedPool x = new GuardedPool();
        due("a great one", x.greatest(5), 14);
        for (int i = 0; i < 3; i++) {
            x.ask(i, 14);
        }
        x.ask(0, 6);
        due("a middle one", x.greatest(5), 6);
        x.ask(1, 2);
        due("a small one", x.greatest(5), 2);
        x.ask(2, 2);
        due("nothing", x.greatest(5), NONE);
    }

    static void p22ByWhatItOwns() {
        says(22, "Returns the words");
        GuardedPool x = after(y -> y.ask(0, 14));
        due("16 of 32", x.greatest(0), 14);
        x.ask(0, 1);
        due("20 of 32", x.greatest(0), 6);
        x.ask(0, 3);
        due("28 of 32", x.greatest(0), 2);
        x.ask(0, 1);
        due("32 of 32", x.greatest(0), NONE);
        due("another's", x.greatest(1), 14);
    }

    static void p22The300DoNotMatter() {
        says(22, "(the 300 do not matter)");
        due("greatest(1)", after(x -> grant(x, 300)).greatest(1), 14);
    }

    static void p22Unknown() {
        says(22, "UNKNOWN");
        each("greatest(..)", NO_TASKS, task -> new GuardedPool().greatest(task), UNKNOWN);
    }

    static void p22NoneIfEachWouldBeRefused() {
        says(22, "NONE if each one would be refused");
        due("ended", after(x -> x.live(0, false)).greatest(0), NONE);
        due("limit", after(x -> x.setLimit(0, 3)).greatest(0), NONE);
    }

    static void p22ChangesNothing() {
        says(22, CHANGES_NOTHING);
        changesNothing("UNKNOWN", Bounds::busy, x -> x.greatest(6), UNKNOWN);
        changesNothing("NONE", Bounds::busy, x -> x.greatest(5), NONE);
        changesNothing("words", Bounds::busy, x -> x.greatest(0), 14);
    }

    // ---- promise 23

    static void p23RankFrom0() {
        says(23, "`rank`: a rank, from 0");
        GuardedPool x = after(Bounds::busy);
        due("leak(0)", x.leak(0), 2);
        due("leak(1)", x.leak(1), NONE);
    }

    static void p23LongestFirst() {
        says(23, "Tells leaks, those that were not used for the longest time first");
        GuardedPool x = new GuardedPool();
        for (int task = 0; task < 4; task++) {
            x.ask(task, 1);
            x.pass(1);
        }
        x.touch(1);
        x.pass(60);
        int[] due = {0, 2, 3, 1, NONE};
        for (int rank = 0; rank < due.length; rank++) {
            due("leak(" + rank + ")", x.leak(rank), due[rank]);
        }
        x.live(1, false);
        due("a task's end makes it no older", x.leak(0), 0);
        x.touch(0);
        due("used now", x.leak(0), 2);
    }

    static void p23OfSeveralTheLowestNumber() {
        says(23, "of several the lowest number");
        GuardedPool x = new GuardedPool();
        x.ask(0, 14);
        x.ask(0, 14);
        x.giveBack(0, 0);
        x.ask(0, 14);
        x.ask(1, 14);
        x.live(0, false);
        x.live(1, false);
        int[] due = {1, 2, 3, NONE};
        for (int rank = 0; rank < due.length; rank++) {
            due("leak(" + rank + ")", x.leak(rank), due[rank]);
        }
        due("number 1 is not the lowest word", x.block(1, 0), 16);
    }

    static void p23LeaksAlone() {
        says(23, "Tells leaks");
        GuardedPool x = after(y -> y.ask(0, 1));
        x.pass(10);
        x.ask(1, 1);
        x.live(1, false);
        due("not the older one that is none", x.leak(0), 1);
        due("no more", x.leak(1), NONE);
    }

    static void p23TheBlock() {
        says(23, "Returns the block");
        due("leak(0)", after(Bounds::busy).leak(0), 2);
    }

    static void p23BadValueIfNegative() {
        says(23, "BAD_VALUE if rank is negative");
        GuardedPool x = after(Bounds::busy);
        due("leak(-1)", x.leak(-1), BAD_VALUE);
        due("far below", x.leak(LEAST), BAD_VALUE);
        due("leak(0)", x.leak(0), 2);
    }

    static void p23NoneIfNotSoMany() {
        says(23, "NONE if there are not so many");
        due("of none", new GuardedPool().leak(0), NONE);
        GuardedPool x = after(Bounds::busy);
        x.pass(50);
        due("the last of three", x.leak(2), 2);
        due("the fourth", x.leak(3), NONE);
        due("far", x.leak(MOST), NONE);
    }

    static void p23SixteenLeaks() {
        says(23, "Tells leaks");
        GuardedPool x = new GuardedPool();
        for (int i = 0; i < 16; i++) {
            x.ask(i / 3, 1);
        }
        x.pass(50);
        for (int rank = 0; rank < 16; rank++) {
            due("leak(" + rank + ")", x.leak(rank), rank);
        }
        due("leak(16)", x.leak(16), NONE);
    }

    static void p23Order() {
        says(23, ORDER);
        due("BAD_VALUE ahead of NONE", new GuardedPool().leak(-1), BAD_VALUE);
    }

    static void p23ChangesNothing() {
        says(23, CHANGES_NOTHING);
        changesNothing("BAD_VALUE", Bounds::busy, x -> x.leak(-1), BAD_VALUE);
        changesNothing("NONE", Bounds::busy, x -> x.leak(1), NONE);
        changesNothing("a leak", Bounds::busy, x -> x.leak(0), 2);
    }

    // ---- promise 24

    static void p24ReasonFrom1To3() {
        says(24, "`reason`: 1 to 3");
        range("refused(..)", 1, 3, reason -> new GuardedPool().refused(reason), BAD_VALUE);
    }

    static void p24HowManyWereRefused() {
        says(24, "Tells how many calls of ask() were refused for a reason so far");
        GuardedPool x = new GuardedPool();
        x.live(0, false);
        x.setLimit(1, 3);
        for (int i = 0; i < 4; i++) {
            x.ask(2 + i / 2, 14);
        }
        int[] tasks = {0, 1, 1, 5, 5, 5};
        for (int task : tasks) {
            due("ask(" + task + ", 1)", x.ask(task, 1), REFUSED);
        }
        for (int reason = 1; reason <= 3; reason++) {
            due("refused(" + reason + ")", x.refused(reason), reason);
        }
    }

    static void p24HowMany() {
        says(24, "Returns how many");
        GuardedPool x = after(y -> y.live(0, false));
        for (int i = 0; i < 400; i++) {
            x.ask(0, 1);
        }
        due("refused(1)", x.refused(1), 400);
    }

    static void p24ErrorsAreNotRefusals() {
        says(24, "Tells how many calls of ask() were refused for a reason so far");
        GuardedPool x = after(y -> grant(y, 300));
        x.live(0, false);
        x.ask(0, 1);
        x.ask(0, 15);
        x.ask(6, 1);
        x.reason(0, 1);
        x.greatest(0);
        for (int reason = 1; reason <= 3; reason++) {
            due("refused(" + reason + ")", x.refused(reason), 0);
        }
    }

    static void p24NotCommands() {
        says(24, "(not commands of perform()");
        GuardedPool x = new GuardedPool();
        Due.perform(x, "e0,a0:1");
        Due.perform(x, "a1:14,a1:14,a1:1");
        Due.perform(x, "a1:14,a1:14,a2:14,a2:14,a3:1");
        for (int reason = 1; reason <= 3; reason++) {
            due("refused(" + reason + ")", x.refused(reason), 0);
        }
    }

    static void p24UndoAndRestoreDoNotChangeThat() {
        says(24, "undo() and restore() do not change that)");
        GuardedPool x = after(y -> y.keep());
        x.live(0, false);
        x.ask(0, 1);
        x.undo();
        due("behind undo()", x.refused(1), 1);
        x.live(0, false);
        x.ask(0, 1);
        x.restore();
        due("behind restore()", x.refused(1), 2);
    }

    static void p24BadValue() {
        says(24, "BAD_VALUE");
        due("refused(0)", new GuardedPool().refused(0), BAD_VALUE);
        due("refused(4)", new GuardedPool().refused(4), BAD_VALUE);
    }

    static void p24ChangesNothing() {
        says(24, CHANGES_NOTHING);
        changesNothing("BAD_VALUE", Bounds::busy, x -> x.refused(4), BAD_VALUE);
    }

    // ---- promise 25

    static void p25SizeFrom0To2() {
        says(25, "`size`: 0 to 2");
        range("size(.., 0)", 0, 2, size -> new GuardedPool().size(size, 0), UNKNOWN);
    }

    static void p25SizesAreNumbered() {
        says(25, "The sizes are numbered 0, 1 and 2");
        GuardedPool x = after(Bounds::busy);
        due("small", x.size(0, 1), 1);
        due("middle", x.size(1, 1), 1);
        due("great", x.size(2, 1), 1);
        due("no greater", x.size(3, 1), UNKNOWN);
    }

    static void p25What() {
        says(25, "BAD_VALUE");
        GuardedPool x = after(Bounds::busy);
        for (int i = 0; i < 3; i++) {
            int size = i;
            whats("size(" + size + ", ..)", 2, what -> x.size(size, what));
        }
    }

    static void p25Free() {
        says(25, "`what`: 0 for free blocks of this size");
        GuardedPool x = after(Bounds::busy);
        int[] free = {1, 0, 2};
        for (int size = 0; size < 3; size++) {
            due("size " + size, x.size(size, 0), free[size]);
        }
    }

    static void p25Owned() {
        says(25, "1 for owned ones");
        GuardedPool x = after(Bounds::busy);
        x.ask(0, 1);
        int[] owned = {2, 1, 1};
        for (int size = 0; size < 3; size++) {
            due("size " + size, x.size(size, 1), owned[size]);
        }
    }

    static void p25LowestFree() {
        says(25, "2 for the word at which the lowest free one begins (NONE without one)");
        GuardedPool x = after(Bounds::busy);
        int[] lowest = {4, NONE, 32};
        for (int size = 0; size < 3; size++) {
            due("size " + size, x.size(size, 2), lowest[size]);
        }
        x.giveBack(1, 1);
        due("a middle one", x.size(1, 2), 8);
        x.giveBack(0, 0);
        due("a great one at word 0", x.size(2, 2), 0);
    }

    static void p25FreeOrOwned() {
        says(25, "A block is free, or owned");
        GuardedPool x = after(Bounds::busy);
        int words = 0;
        for (int size = 0; size < 3; size++) {
            words += (x.size(size, 0) + x.size(size, 1)) * (4 << size);
        }
        due("words of all blocks", words, 64);
    }

    static void p25Returns() {
        says(25, "Returns the number");
        due("size(2, 0)", new GuardedPool().size(2, 0), 4);
    }

    static void p25Unknown() {
        says(25, "UNKNOWN");
        int[] sizes = {-1, 3, LEAST, MOST};
        for (int what = 0; what < 3; what++) {
            int told = what;
            each("size(.., " + what + ")", sizes, size -> new GuardedPool().size(size, told), UNKNOWN);
        }
    }

    static void p25Order() {
        says(25, ORDER);
        due("size(3, 3)", new GuardedPool().size(3, 3), UNKNOWN);
        due("size(-1, -1)", new GuardedPool().size(-1, -1), UNKNOWN);
    }

    static void p25ChangesNothing() {
        says(25, CHANGES_NOTHING);
        changesNothing("UNKNOWN", Bounds::busy, x -> x.size(3, 0), UNKNOWN);
        changesNothing("BAD_VALUE", Bounds::busy, x -> x.size(0, 3), BAD_VALUE);
        changesNothing("NONE", Bounds::busy, x -> x.size(1, 2), NONE);
    }

    // ---- promise 26

    static void p26What() {
        says(26, "BAD_VALUE");
        GuardedPool x = after(Bounds::busy);
        whats("count(..)", 11, x::count);
    }

    static void p26Owned() {
        says(26, "`what`: 0 for owned blocks");
        GuardedPool x = new GuardedPool();
        for (int i = 0; i < 16; i++) {
            due("count(0)", x.count(0), i);
            x.ask(i / 3, 1);
        }
        due("all", x.count(0), 16);
        x.giveBack(0, 0);
        due("one less", x.count(0), 15);
    }

    static void p26FreeWords() {
        says(26, "1 for free words");
        GuardedPool x = new GuardedPool();
        int[] free = {60, 52, 36, 20};
        int[] asked = {1, 3, 7, 14};
        for (int i = 0; i < free.length; i++) {
            x.ask(i, asked[i]);
            due("behind " + asked[i], x.count(1), free[i]);
        }
        x.ask(4, 14);
        x.ask(5, 1);
        due("none", x.count(1), 0);
    }

    static void p26WordsThatNobodyAskedFor() {
        says(26, "2 for words in owned blocks that nobody asked for (guards among them)");
        GuardedPool x = new GuardedPool();
        int[] asked = {2, 1, 6, 3, 14, 7};
        int[] wasted = {2, 5, 7, 12, 14, 23};
        for (int i = 0; i < asked.length; i++) {
            x.ask(i, asked[i]);
            due("behind " + asked[i], x.count(2), wasted[i]);
        }
        x.giveBack(5, 5);
        due("given back", x.count(2), 14);
    }

    static void p26Leaks() {
        says(26, "3 for leaks");
        GuardedPool x = after(Bounds::busy);
        due("of an ended task", x.count(3), 1);
        x.pass(41);
        due("by age too", x.count(3), 3);
        x.sweep();
        due("swept", x.count(3), 0);
    }

    static void p26Clock() {
        says(26, "4 for the clock");
        GuardedPool x = after(y -> y.pass(500));
        due("count(4)", x.count(4), 500);
    }

    static void p26Splits() {
        says(26, "5 for splits so far");
        GuardedPool x = after(y -> y.ask(0, 1));
        due("two", x.count(5), 2);
        x.giveBack(0, 0);
        due("joins take none away", x.count(5), 2);
        x.ask(0, 3);
        due("three", x.count(5), 3);
    }

    static void p26Joins() {
        says(26, "6 for joins so far");
        GuardedPool x = after(y -> y.ask(0, 1));
        due("none", x.count(6), 0);
        x.giveBack(0, 0);
        due("two", x.count(6), 2);
        x.ask(0, 14);
        x.giveBack(0, 1);
        due("a great one joins nothing", x.count(6), 2);
        x.ask(0, 3);
        x.live(0, false);
        x.sweep();
        due("by a sweep", x.count(6), 3);
    }

    static void p26GuardsFoundBroken() {
        says(26, "7 for guards that were found broken so far (by giving back and by sweeps)");
        GuardedPool x = after(Bounds::busy);
        due("none found", x.count(7), 0);
        x.giveBack(0, 0);
        due("by giving back", x.count(7), 1);
        x.write(1, 1, -1, 5);
        x.write(1, 1, 4, 5);
        x.live(1, false);
        x.sweep();
        due("by a sweep", x.count(7), 3);
    }

    static void p26Granted() {
        says(26, "8 for requests granted so far");
        GuardedPool x = after(y -> y.ask(0, 1));
        x.giveBack(0, 0);
        x.ask(0, 0);
        x.live(1, false);
        x.ask(1, 1);
        due("one", x.count(8), 1);
        Due.perform(x, "a0:1,a0:1");
        due("by commands too", x.count(8), 3);
    }

    static void p26Patience() {
        says(26, "9 for the patience");
        GuardedPool x = after(y -> y.setPatience(77));
        due("count(9)", x.count(9), 77);
    }

    static void p26States() {
        says(26, "10 for the states in the history");
        GuardedPool x = new GuardedPool();
        for (int acts = 1; acts <= 5; acts++) {
            x.pass(1);
            due("behind " + acts, x.count(10), Math.min(acts, 4));
        }
        x.undo();
        due("behind undo()", x.count(10), 3);
    }

    static void p26LengthOfTheText() {
        says(26, "11 for the length of the text");
        GuardedPool x = new GuardedPool();
        for (int length = 1; length <= 60; length++) {
            x.type('x');
            due("count(11)", x.count(11), length);
        }
        x.type('x');
        due("full", x.count(11), 60);
        x.clearText();
        due("empty", x.count(11), 0);
    }

    static void p26Returns() {
        says(26, "Returns the number");
        due("count(1)", new GuardedPool().count(1), 64);
    }

    static void p26ChangesNothing() {
        says(26, CHANGES_NOTHING);
        changesNothing("BAD_VALUE", Bounds::busy, x -> x.count(12), BAD_VALUE);
    }
}
