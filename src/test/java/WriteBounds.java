/** The sentences on write (promise 4). */
final class WriteBounds extends Bounds {
    private WriteBounds() {
    }

    /** Block 0 of task 0 at word 0 (3 words asked of 8), 1 of task 1 at 8 (4 of 8); from 16 on all is free. */
    private static void two(GuardedPool x) {
        x.ask(0, 3);
        x.ask(1, 4);
    }

    static void p4TaskFrom0To5() {
        says(4, "`task`: 0 to 5: the task that writes");
        GuardedPool x = new GuardedPool();
        for (int task = 0; task <= 5; task++) {
            x.ask(task, 1);
            due("task " + task, x.write(task, task, 0, 1), 0);
        }
        each("write(.., 0, 0, 1)", NO_TASKS, task -> x.write(task, 0, 0, 1), UNKNOWN);
    }

    static void p4BlockThatIsOwned() {
        says(4, "`block`: a block that is owned");
        GuardedPool x = after(WriteBounds::two);
        each("write(0, .., 0, 1)", NO_BLOCKS, block -> x.write(0, block, 0, 1), UNKNOWN);
        due("the next number", x.write(0, 2, 0, 1), UNKNOWN);
        x.giveBack(0, 0);
        due("given back", x.write(0, 0, 0, 1), UNKNOWN);
    }

    static void p4IndexFromMinus64To64() {
        says(4, "`index`: -64 to 64");
        range("write(0, 0, .., 1)", -64, 64, index -> after(WriteBounds::two).write(0, 0, index, 1), BAD_VALUE);
    }

    static void p4ValueFrom1To99() {
        says(4, "`value`: 1 to 99");
        range("write(0, 0, 0, ..)", 1, 99, value -> after(WriteBounds::two).write(0, 0, 0, value), BAD_VALUE);
        GuardedPool x = after(WriteBounds::two);
        x.write(0, 0, 0, 1);
        x.write(0, 0, 1, 99);
        due("the least value", x.word(1, 0), 1);
        due("the greatest value", x.word(2, 0), 99);
    }

    static void p4AValueIsWritten() {
        says(4, "A task writes a value (1 to 99) into a word of a block that it owns, by an index");
        GuardedPool x = after(WriteBounds::two);
        x.write(0, 0, 2, 33);
        due("its word", x.word(3, 0), 33);
        x.write(0, 0, 2, 34);
        due("written again", x.word(3, 0), 34);
        due("the word ahead of it", x.word(2, 0), 0);
        due("the word behind it", x.word(4, 0), 0);
    }

    static void p4Index0IsBehindTheGuard() {
        says(4, "0 is the first word behind the guard");
        GuardedPool x = after(WriteBounds::two);
        x.write(1, 1, 0, 33);
        due("the guard", x.word(8, 0), 0);
        due("the first word", x.word(9, 0), 33);
    }

    // ---- what is returned

    static void p4Return0() {
        says(4, "Returns 0 if it is a word that was asked for in this block");
        GuardedPool x = after(WriteBounds::two);
        due("the first", x.write(0, 0, 0, 1), 0);
        due("the last", x.write(0, 0, 2, 1), 0);
        due("the last of the other", x.write(1, 1, 3, 1), 0);
        GuardedPool y = after(z -> z.ask(0, 14));
        due("the last of 14", y.write(0, 0, 13, 1), 0);
        due("the guard behind it", y.write(0, 0, 14, 1), 2);
    }

    static void p4Return1() {
        says(4, "1 another word of a block that is owned");
        GuardedPool x = after(WriteBounds::two);
        due("the first of the other block", x.write(0, 0, 8, 1), 1);
        due("its last", x.write(0, 0, 11, 1), 1);
        due("not asked for in it", x.write(0, 0, 13, 1), 1);
        due("its end", x.write(0, 0, 14, 1), 1);
        due("behind it", x.write(0, 0, 15, 1), 3);
        due("below, the end of the block ahead", x.write(1, 1, -2, 1), 1);
        due("below, a word that was asked for", x.write(1, 1, -6, 1), 1);
    }

    static void p4Return1OfTheSameTask() {
        says(4, "1 another word of a block that is owned");
        GuardedPool x = after(y -> y.ask(0, 2));
        x.ask(0, 2);
        due("of its own other block", x.write(0, 0, 4, 1), 1);
    }

    static void p4Return2() {
        says(4, "2 a guard");
        GuardedPool x = after(WriteBounds::two);
        due("own guard ahead", x.write(0, 0, -1, 1), 2);
        due("own guard behind", x.write(0, 0, 3, 1), 2);
        due("other guard ahead", x.write(0, 0, 7, 1), 2);
        due("other guard behind", x.write(0, 0, 12, 1), 2);
        due("a broken one", x.write(0, 0, 12, 1), 2);
    }

    static void p4Return3() {
        says(4, "3 a word of a free block");
        GuardedPool x = after(WriteBounds::two);
        due("the first", x.write(0, 0, 15, 1), 3);
        due("the last of the pool", x.write(0, 0, 62, 1), 3);
    }

    static void p4Return4() {
        says(4, "4 a word of this block that was not asked for and is no guard");
        GuardedPool x = after(WriteBounds::two);
        due("behind the guard", x.write(0, 0, 4, 5), 4);
        due("the end of the block", x.write(0, 0, 6, 6), 4);
        due("its value", x.word(5, 0), 5);
        due("the last value", x.word(7, 0), 6);
        due("the next is a guard of another", x.write(0, 0, 7, 1), 2);
    }

    static void p4UnknownTaskOrBlock() {
        says(4, "UNKNOWN (task or block)");
        GuardedPool x = after(WriteBounds::two);
        due("the task", x.write(6, 0, 0, 1), UNKNOWN);
        due("the block", x.write(0, 2, 0, 1), UNKNOWN);
    }

    static void p4BadValue() {
        says(4, "BAD_VALUE");
        GuardedPool x = after(WriteBounds::two);
        due("the index", x.write(0, 0, 65, 1), BAD_VALUE);
        due("the index below", x.write(0, 0, -65, 1), BAD_VALUE);
        due("the value", x.write(0, 0, 0, 100), BAD_VALUE);
        due("the value below", x.write(0, 0, 0, 0), BAD_VALUE);
    }

    static void p4NotItsOwner() {
        says(4, "NOT_POSSIBLE if the task does not own it");
        GuardedPool x = after(WriteBounds::two);
        due("of another", x.write(0, 1, 0, 1), NOT_POSSIBLE);
        due("by a task without blocks", x.write(5, 0, 0, 1), NOT_POSSIBLE);
    }

    static void p4AnEndedTask() {
        says(4, "or has ended");
        GuardedPool x = after(WriteBounds::two);
        x.live(0, false);
        due("the ended one", x.write(0, 0, 0, 1), NOT_POSSIBLE);
        due("another one", x.write(1, 1, 0, 1), 0);
        x.live(0, true);
        due("alive again", x.write(0, 0, 0, 1), 0);
    }

    static void p4AnEndedTasksBlockIsHitByOthers() {
        says(4, "writing to another word of the pool writes there, whoever owns it");
        GuardedPool x = after(WriteBounds::two);
        x.live(1, false);
        due("a word of it", x.write(0, 0, 8, 5), 1);
        due("its value", x.word(9, 0), 5);
        due("a guard of it", x.write(0, 0, 7, 5), 2);
        due("it is broken", x.block(1, 4), 1);
    }

    static void p4NotInThePool() {
        says(4, "or the word is not in the pool");
        GuardedPool x = after(WriteBounds::two);
        due("word 63", x.write(0, 0, 62, 1), 3);
        due("word 64", x.write(0, 0, 63, 1), NOT_POSSIBLE);
        due("word 65", x.write(0, 0, 64, 1), NOT_POSSIBLE);
        due("word 0", x.write(1, 1, -9, 1), 2);
        due("word -1", x.write(1, 1, -10, 1), NOT_POSSIBLE);
        due("word -1 of block 0", x.write(0, 0, -2, 1), NOT_POSSIBLE);
        due("word -63", x.write(0, 0, -64, 1), NOT_POSSIBLE);
    }

    static void p4AsLongAsTheWordIsInThePool() {
        says(4, "The index may be beyond what was asked for, or below 0, as long as the word is in the pool");
        GuardedPool x = new GuardedPool();
        for (int i = 0; i < 4; i++) {
            x.ask(i, 14);
        }
        due("the last block's end, word 63", x.write(3, 3, 14, 1), 2);
        due("word 64", x.write(3, 3, 15, 1), NOT_POSSIBLE);
        due("down to word 0", x.write(3, 3, -49, 1), 2);
        due("word -1", x.write(3, 3, -50, 1), NOT_POSSIBLE);
        due("up to word 63", x.write(0, 0, 62, 1), 2);
    }

    static void p4WordsOfThePoolFrom0To63() {
        says(4, "The pool has 64 words, numbered from 0");
        GuardedPool x = new GuardedPool();
        x.setLimit(0, 64);
        for (int i = 0; i < 16; i++) {
            x.ask(0, 1);
        }
        due("the last small one's last word, 63", x.write(0, 15, 2, 1), 4);
        due("word 64", x.write(0, 15, 3, 1), NOT_POSSIBLE);
        due("word 0", x.write(0, 15, -61, 1), 2);
        due("word -1", x.write(0, 15, -62, 1), NOT_POSSIBLE);
    }

    // ---- guards, free words, use

    static void p4WritesIntoOrBeyond() {
        says(4, "Writes into a block, or beyond it");
        GuardedPool x = after(WriteBounds::two);
        x.write(0, 0, 1, 5);
        x.write(0, 0, 9, 6);
        due("into it", x.word(2, 0), 5);
        due("beyond it", x.word(10, 0), 6);
    }

    static void p4AGuardOfAnyBlockBreaks() {
        says(4, "writing to a guard of any block breaks it");
        int[] indices = {-1, 3, 7, 12};
        for (int index : indices) {
            GuardedPool x = after(WriteBounds::two);
            x.write(0, 0, index, 1);
            due("index " + index + ", broken in block 0", x.block(0, 4), index < 7 ? 1 : 0);
            due("index " + index + ", broken in block 1", x.block(1, 4), index < 7 ? 0 : 1);
            due("told of the guard", x.word(index + 1, 2), 1);
            due("its value", x.word(index + 1, 0), 1);
        }
    }

    static void p4ABrokenGuardTakesTheNextValue() {
        says(4, "writing to a guard of any block breaks it");
        GuardedPool x = after(WriteBounds::two);
        x.write(0, 0, 3, 7);
        x.write(0, 0, 3, 8);
        due("its value", x.word(4, 0), 8);
        due("broken once", x.block(0, 4), 1);
        due("counted once", x.task(0, 6), 1);
    }

    static void p4OtherWordsBreakNothing() {
        says(4, "writing to another word of the pool writes there, whoever owns it");
        GuardedPool x = after(WriteBounds::two);
        x.write(0, 0, 2, 1);
        x.write(0, 0, 4, 1);
        x.write(0, 0, 8, 5);
        x.write(0, 0, 14, 6);
        due("guards of block 0", x.block(0, 4), 0);
        due("guards of block 1", x.block(1, 4), 0);
        due("a word of the other", x.word(9, 0), 5);
        due("the last word of the other", x.word(15, 0), 6);
        due("no guard was broken", x.task(0, 6), 0);
    }

    static void p4NoGuardsInAFreeBlock() {
        says(4, "(In a free block there are no guards");
        GuardedPool x = after(WriteBounds::two);
        x.giveBack(1, 1);
        due("where one was ahead", x.write(0, 0, 7, 1), 3);
        due("where one was behind", x.write(0, 0, 12, 1), 3);
        due("none was broken", x.task(0, 6), 0);
    }

    static void p4LostInAFreeBlock() {
        says(4, "what is written there is lost");
        GuardedPool x = after(WriteBounds::two);
        x.write(0, 0, 15, 44);
        x.write(0, 0, 16, 45);
        due("told at once", x.word(17, 0), 0);
        x.ask(2, 14);
        due("told of the guard that came there", x.block(2, 4), 0);
        due("told of the word that came there", x.word(17, 0), 0);
    }

    static void p4UsedAtTheTimeItIsNamed() {
        says(4, "named in write() by its owner (whatever word is written)");
        int[] indices = {0, 8, 3, 20, 5};
        int[] kinds = {0, 1, 2, 3, 4};
        for (int i = 0; i < indices.length; i++) {
            GuardedPool x = after(WriteBounds::two);
            x.pass(7);
            due("index " + indices[i], x.write(0, 0, indices[i], 1), kinds[i]);
            due("the named one is used", x.block(0, 5), 0);
            due("the other is not", x.block(1, 5), 7);
        }
    }

    static void p4Order() {
        says(4, ORDER);
        GuardedPool x = after(WriteBounds::two);
        due("UNKNOWN task ahead of BAD_VALUE", x.write(6, 0, 65, 0), UNKNOWN);
        due("UNKNOWN block ahead of BAD_VALUE", x.write(0, 2, 65, 0), UNKNOWN);
        due("UNKNOWN task ahead of NOT_POSSIBLE", x.write(6, 0, 63, 1), UNKNOWN);
        due("UNKNOWN block ahead of NOT_POSSIBLE", x.write(1, 2, 63, 1), UNKNOWN);
        due("bad index ahead of another's block", x.write(0, 1, 65, 1), BAD_VALUE);
        due("bad value ahead of another's block", x.write(0, 1, 0, 0), BAD_VALUE);
        due("bad value ahead of a word beyond", x.write(0, 0, 63, 100), BAD_VALUE);
        x.live(0, false);
        due("bad value ahead of an ended task", x.write(0, 0, 0, 0), BAD_VALUE);
        due("bad index ahead of an ended task", x.write(0, 0, -65, 1), BAD_VALUE);
    }

    static void p4IsAnAct() {
        says(4, IS_AN_ACT);
        isOneAct("a word", Bounds::busy, x -> x.write(0, 0, 1, 9), 0);
        isOneAct("a guard", Bounds::busy, x -> x.write(0, 0, -1, 9), 2);
        isOneAct("another's guard", Bounds::busy, x -> x.write(1, 1, 7, 9), 2);
        isOneAct("a free word", Bounds::busy, x -> x.write(0, 0, 50, 9), 3);
        isOneAct("a word not asked for", Bounds::busy, x -> x.write(1, 1, 5, 9), 4);
    }

    static void p4ErrorsChangeNothing() {
        says(4, CHANGES_NOTHING);
        changesNothing("UNKNOWN task", Bounds::busy, x -> x.write(6, 0, 0, 1), UNKNOWN);
        changesNothing("UNKNOWN block", Bounds::busy, x -> x.write(0, 3, 0, 1), UNKNOWN);
        changesNothing("bad index", Bounds::busy, x -> x.write(0, 0, 65, 1), BAD_VALUE);
        changesNothing("bad value", Bounds::busy, x -> x.write(0, 0, 0, 100), BAD_VALUE);
        changesNothing("not the owner", Bounds::busy, x -> x.write(0, 1, 0, 1), NOT_POSSIBLE);
        changesNothing("ended", Bounds::busy, x -> x.write(5, 2, 0, 1), NOT_POSSIBLE);
        changesNothing("not in the pool", Bounds::busy, x -> x.write(0, 0, 63, 1), NOT_POSSIBLE);
    }
}
