/** Promises 1 to 5: a new object, ask, giveBack, write, touch. */
public final class RequestsTest {
    private RequestsTest() {
    }

    public static void main(String[] args) {
        newObject();
        askCutsTheLowest();
        askTakesTheSmallestSize();
        askWrongInputs();
        askRefused();
        askNumbersAndFull();
        giveBackTells();
        giveBackJoins();
        giveBackWrongInputs();
        writeKinds();
        writeBreaksGuards();
        writeEdges();
        writeUsesTheNamedBlock();
        wordsAreFresh();
        touchTells();
        Due.end("RequestsTest");
    }

    private static void newObject() {
        GuardedPool x = new GuardedPool();
        for (int size = 0; size < 3; size++) {
            Due.due("P1 free of size " + size, x.size(size, 0), size == 2 ? 4 : 0);
            Due.due("P1 owned of size " + size, x.size(size, 1), 0);
            Due.due("P1 lowest of size " + size, x.size(size, 2), size == 2 ? 0 : GuardedPool.NONE);
        }
        int[] counts = {0, 64, 0, 0, 0, 0, 0, 0, 0, 50, 0, 0};
        for (int what = 0; what < counts.length; what++) {
            Due.due("P1 count " + what, x.count(what), counts[what]);
        }
        int[] told = {1, 0, 0, 0, 32, 0, 0};
        for (int task = 0; task < 6; task++) {
            for (int what = 0; what < told.length; what++) {
                Due.due("P1 task " + what, x.task(task, what), told[what]);
            }
        }
        for (int word = 0; word < 64; word++) {
            Due.due("P1 word value", x.word(word, 0), 0);
            Due.due("P1 word block", x.word(word, 1), GuardedPool.NONE);
            Due.due("P1 word guard", x.word(word, 2), 0);
            Due.due("P1 word size", x.word(word, 3), 2);
        }
        for (int reason = 1; reason <= 3; reason++) {
            Due.due("P1 refused", x.refused(reason), 0);
        }
        Due.due("P1 stopped", x.stopped(0), GuardedPool.NONE);
        Due.due("P1 undo", x.undo(), GuardedPool.NONE);
        Due.due("P1 restore", x.restore(), GuardedPool.NONE);
        Due.due("P1 leak", x.leak(0), GuardedPool.NONE);
        Due.due("P1 block", x.block(0, 0), GuardedPool.UNKNOWN);
        Due.due("P1 clearText", x.clearText(), 0);
    }

    private static void askCutsTheLowest() {
        GuardedPool x = new GuardedPool();
        Due.due("P2 first", x.ask(0, 1), 0);
        Due.due("P2 splits", x.count(5), 2);
        Due.due("P2 begin", x.block(0, 0), 0);
        Due.due("P2 small free at", x.size(0, 2), 4);
        Due.due("P2 middle free at", x.size(1, 2), 8);
        Due.due("P2 great free at", x.size(2, 2), 16);
        Due.due("P2 second", x.ask(1, 14), 1);
        Due.due("P2 great begins at", x.block(1, 0), 16);
        Due.due("P2 no split for great", x.count(5), 2);
        Due.due("P2 third", x.ask(0, 2), 2);
        Due.due("P2 takes the free small one", x.block(2, 0), 4);
        Due.due("P2 no split for it", x.count(5), 2);
        Due.due("P2 fourth", x.ask(0, 2), 3);
        Due.due("P2 splits the middle one", x.block(3, 0), 8);
        Due.due("P2 one split", x.count(5), 3);
        Due.due("P2 middle of a great one", x.ask(2, 6), 4);
        Due.due("P2 begins at 32", x.block(4, 0), 32);
        Due.due("P2 one split more", x.count(5), 4);
        Due.due("P2 back", x.giveBack(0, 0), 0);
        Due.due("P2 lowest small again", x.ask(3, 1), 5);
        Due.due("P2 at 0", x.block(5, 0), 0);
        Due.due("P2 next small", x.ask(3, 1), 6);
        Due.due("P2 at 12", x.block(6, 0), 12);
    }

    private static void askTakesTheSmallestSize() {
        int[] sizes = {0, 0, 1, 1, 1, 1, 2, 2, 2, 2, 2, 2, 2, 2};
        for (int words = 1; words <= 14; words++) {
            GuardedPool x = new GuardedPool();
            Due.due("P2 ask", x.ask(5, words), 0);
            Due.due("P2 size for " + words, x.block(0, 1), sizes[words - 1]);
            Due.due("P2 owner", x.block(0, 2), 5);
            Due.due("P2 asked", x.block(0, 3), words);
            Due.due("P2 guards whole", x.block(0, 4), 0);
            Due.due("P2 front guard", x.word(0, 2), 1);
            Due.due("P2 last word", x.word(words, 2), 0);
            Due.due("P2 rear guard", x.word(words + 1, 2), 1);
            Due.due("P2 recorded", x.count(10), 1);
        }
    }

    private static void askWrongInputs() {
        GuardedPool x = new GuardedPool();
        int[] tasks = {-1, 6, Integer.MIN_VALUE, Integer.MAX_VALUE};
        for (int task : tasks) {
            Due.due("P2 task " + task, x.ask(task, 1), GuardedPool.UNKNOWN);
            Due.due("P2 unknown first " + task, x.ask(task, 0), GuardedPool.UNKNOWN);
        }
        int[] words = {0, -1, 15, Integer.MIN_VALUE, Integer.MAX_VALUE};
        for (int number : words) {
            Due.due("P2 words " + number, x.ask(0, number), GuardedPool.BAD_VALUE);
        }
        x.live(0, false);
        Due.due("P2 bad value ahead of refused", x.ask(0, 0), GuardedPool.BAD_VALUE);
        Due.due("P2 nothing refused", x.refused(1), 0);
        Due.due("P2 nothing recorded but live", x.count(10), 1);
        Due.due("P2 nothing granted", x.count(8), 0);
    }

    private static void askRefused() {
        GuardedPool x = new GuardedPool();
        x.setLimit(0, 16);
        Due.due("P2 up to the limit", x.ask(0, 14), 0);
        Due.due("P2 beyond the limit", x.ask(0, 1), GuardedPool.REFUSED);
        Due.due("P2 limit refused", x.refused(2), 1);
        x.setLimit(0, 19);
        Due.due("P2 a word too few", x.ask(0, 1), GuardedPool.REFUSED);
        x.setLimit(0, 20);
        Due.due("P2 whole blocks count", x.ask(0, 3), GuardedPool.REFUSED);
        Due.due("P2 just so many", x.ask(0, 2), 1);
        x.ask(1, 14);
        x.ask(1, 14);
        Due.due("P2 no great one", x.ask(2, 7), GuardedPool.REFUSED);
        Due.due("P2 room refused", x.refused(3), 1);
        Due.due("P2 a middle one is there", x.ask(2, 6), 4);
        Due.due("P2 limit ahead of room", x.ask(1, 14), GuardedPool.REFUSED);
        Due.due("P2 limit counted", x.refused(2), 4);
        x.live(1, false);
        Due.due("P2 ended ahead of limit", x.ask(1, 14), GuardedPool.REFUSED);
        Due.due("P2 ended counted", x.refused(1), 1);
        Due.due("P2 refusals granted nothing", x.count(8), 5);
    }

    private static void askNumbersAndFull() {
        GuardedPool x = new GuardedPool();
        for (int i = 0; i < 300; i++) {
            Due.due("P2 number", x.ask(0, 1), i);
            if (i < 299) {
                x.giveBack(0, i);
            }
        }
        Due.due("P2 full", x.ask(0, 1), GuardedPool.FULL);
        Due.due("P2 full ahead of refused", x.ask(0, 14 + 1), GuardedPool.BAD_VALUE);
        x.setLimit(0, 0);
        Due.due("P2 full, not refused", x.ask(0, 1), GuardedPool.FULL);
        Due.due("P2 full is no refusal", x.refused(2), 0);
        Due.due("P2 unknown ahead of full", x.ask(6, 1), GuardedPool.UNKNOWN);
        Due.due("P21 the 300 do not matter", x.reason(1, 14), 0);
        Due.due("P22 the 300 do not matter", x.greatest(1), 14);
        Due.due("P3 the last number", x.giveBack(0, 299), 0);
        Due.due("P2 full still", x.ask(0, 1), GuardedPool.FULL);
        x.undo();
        x.undo();
        x.undo();
        Due.due("P15 granted again", x.count(8), 299);
        Due.due("P2 one more", x.ask(0, 1), 299);
    }

    private static void giveBackTells() {
        GuardedPool x = new GuardedPool();
        x.ask(0, 2);
        x.ask(0, 2);
        x.ask(0, 2);
        x.write(0, 1, -1, 5);
        x.write(0, 2, -1, 5);
        x.write(0, 2, 2, 5);
        Due.due("P3 whole", x.giveBack(0, 0), 0);
        Due.due("P3 found none", x.count(7), 0);
        Due.due("P3 one broken", x.giveBack(0, 1), 1);
        Due.due("P3 found one", x.count(7), 1);
        Due.due("P3 two broken", x.giveBack(0, 2), 2);
        Due.due("P3 found three", x.count(7), 3);
        Due.due("P3 recorded", x.count(10), 4);
        Due.due("P3 all free", x.count(1), 64);
        Due.due("P3 gone", x.block(2, 0), GuardedPool.UNKNOWN);
    }

    private static void giveBackJoins() {
        GuardedPool x = new GuardedPool();
        for (int i = 0; i < 4; i++) {
            x.ask(0, 1);
        }
        x.giveBack(0, 1);
        x.giveBack(0, 2);
        Due.due("P3 neighbours are no twins", x.size(0, 0), 2);
        Due.due("P3 no join", x.count(6), 0);
        x.giveBack(0, 0);
        Due.due("P3 a join", x.count(6), 1);
        Due.due("P3 a middle one", x.size(1, 2), 0);
        Due.due("P3 a small one", x.size(0, 2), 8);
        x.giveBack(0, 3);
        Due.due("P3 joins go on", x.count(6), 3);
        Due.due("P3 four great ones", x.size(2, 0), 4);
        x.ask(0, 6);
        x.ask(0, 6);
        x.ask(0, 6);
        x.giveBack(0, 5);
        Due.due("P3 upper middle one waits", x.size(1, 2), 8);
        x.giveBack(0, 6);
        Due.due("P3 not joined across great ones", x.size(1, 0), 1);
        Due.due("P3 great ones stay great", x.size(2, 0), 3);
    }

    private static void giveBackWrongInputs() {
        GuardedPool x = new GuardedPool();
        x.ask(0, 1);
        Due.due("P3 no such task", x.giveBack(6, 0), GuardedPool.UNKNOWN);
        Due.due("P3 task below 0", x.giveBack(-1, 0), GuardedPool.UNKNOWN);
        Due.due("P3 no such block", x.giveBack(0, 1), GuardedPool.UNKNOWN);
        Due.due("P3 block below 0", x.giveBack(0, -1), GuardedPool.UNKNOWN);
        Due.due("P3 block far away", x.giveBack(0, Integer.MAX_VALUE), GuardedPool.UNKNOWN);
        Due.due("P3 another task", x.giveBack(1, 0), GuardedPool.NOT_POSSIBLE);
        Due.due("P3 unknown ahead of not possible", x.giveBack(1, 1), GuardedPool.UNKNOWN);
        Due.due("P3 still owned", x.count(0), 1);
        x.live(0, false);
        Due.due("P3 by another still not", x.giveBack(1, 0), GuardedPool.NOT_POSSIBLE);
        Due.due("P3 by the ended owner", x.giveBack(0, 0), 0);
        Due.due("P3 twice", x.giveBack(0, 0), GuardedPool.UNKNOWN);
        Due.due("P3 errors are not recorded", x.count(10), 3);
    }

    private static void writeKinds() {
        GuardedPool x = new GuardedPool();
        x.ask(0, 3);
        x.ask(1, 4);
        Due.due("P4 first word", x.write(0, 0, 0, 11), 0);
        Due.due("P4 last word", x.write(0, 0, 2, 12), 0);
        Due.due("P4 guard", x.write(0, 0, 3, 13), 2);
        Due.due("P4 behind the guard", x.write(0, 0, 4, 14), 4);
        Due.due("P4 end of the block", x.write(0, 0, 6 - 1, 15), 4);
        Due.due("P4 first of the next block", x.write(0, 0, 7, 16), 2);
        Due.due("P4 asked for in the next", x.write(0, 0, 8, 17), 1);
        Due.due("P4 guard of the next", x.write(0, 0, 12, 18), 2);
        Due.due("P4 not asked for in the next", x.write(0, 0, 13, 19), 1);
        Due.due("P4 free", x.write(0, 0, 15, 20), 3);
        int[] values = {0, 11, 0, 12, 13, 14, 15, 0, 16, 17, 0, 0, 0, 18, 19, 0, 0};
        for (int word = 0; word < values.length; word++) {
            Due.due("P4 value of word " + word, x.word(word, 0), values[word]);
        }
        Due.due("P4 below 0", x.write(1, 1, -2, 21), 4 - 3);
        Due.due("P4 at word 7", x.word(7, 0), 21);
        Due.due("P4 own front guard", x.write(1, 1, -1, 22), 2);
        Due.due("P4 recorded", x.count(10), 4);
    }

    private static void writeBreaksGuards() {
        GuardedPool x = new GuardedPool();
        x.ask(0, 2);
        x.ask(1, 2);
        Due.due("P4 own guard", x.write(0, 0, 2, 1), 2);
        Due.due("P4 broken again", x.write(0, 0, 2, 99), 2);
        Due.due("P4 by another too", x.write(1, 1, -2, 50), 2);
        Due.due("P20 each once", x.task(0, 6), 1);
        Due.due("P20 who broke first", x.task(1, 6), 0);
        Due.due("P4 the value of the last", x.word(3, 0), 50);
        Due.due("P4 guard of another", x.write(0, 0, 3, 1), 2);
        Due.due("P20 counted for the writer", x.task(0, 6), 2);
        Due.due("P18 broken in the other", x.block(1, 4), 1);
        x.giveBack(0, 0);
        x.ask(0, 2);
        Due.due("P2 guards whole again", x.block(2, 4), 0);
        Due.due("P4 broken anew", x.write(0, 2, 2, 1), 2);
        Due.due("P20 counted anew", x.task(0, 6), 3);
    }

    private static void writeEdges() {
        GuardedPool x = new GuardedPool();
        x.ask(0, 14);
        x.ask(1, 14);
        int n = GuardedPool.NOT_POSSIBLE;
        Due.due("P4 task 6", x.write(6, 0, 0, 1), GuardedPool.UNKNOWN);
        Due.due("P4 task -1", x.write(-1, 0, 0, 1), GuardedPool.UNKNOWN);
        Due.due("P4 block 2", x.write(0, 2, 0, 1), GuardedPool.UNKNOWN);
        Due.due("P4 unknown first", x.write(0, 2, 65, 0), GuardedPool.UNKNOWN);
        Due.due("P4 value 0", x.write(0, 0, 0, 0), GuardedPool.BAD_VALUE);
        Due.due("P4 value 100", x.write(0, 0, 0, 100), GuardedPool.BAD_VALUE);
        Due.due("P4 value 1", x.write(0, 0, 0, 1), 0);
        Due.due("P4 value 99", x.write(0, 0, 0, 99), 0);
        Due.due("P4 index 65", x.write(0, 0, 65, 1), GuardedPool.BAD_VALUE);
        Due.due("P4 index -65", x.write(0, 0, -65, 1), GuardedPool.BAD_VALUE);
        Due.due("P4 index far", x.write(0, 0, Integer.MAX_VALUE, 1), GuardedPool.BAD_VALUE);
        Due.due("P4 index far below", x.write(0, 0, Integer.MIN_VALUE, 1), GuardedPool.BAD_VALUE);
        Due.due("P4 index 64", x.write(0, 0, 64, 1), n);
        Due.due("P4 index -64", x.write(0, 0, -64, 1), n);
        Due.due("P4 last word of the pool", x.write(0, 0, 62, 1), 3);
        Due.due("P4 beyond the pool", x.write(0, 0, 63, 1), n);
        Due.due("P4 ahead of the pool", x.write(0, 0, -2, 1), n);
        Due.due("P4 first word of the pool", x.write(1, 1, -17, 1), 2);
        Due.due("P4 not the owner", x.write(0, 1, 0, 1), n);
        Due.due("P4 bad value ahead", x.write(0, 1, 0, 0), GuardedPool.BAD_VALUE);
        x.live(0, false);
        Due.due("P4 ended", x.write(0, 0, 0, 1), n);
        x.live(0, true);
        Due.due("P4 alive again", x.write(0, 0, 0, 1), 0);
    }

    private static void writeUsesTheNamedBlock() {
        GuardedPool x = new GuardedPool();
        x.ask(0, 2);
        x.ask(1, 2);
        x.pass(7);
        x.write(0, 1, 0, 1);
        Due.due("P4 an error uses nothing", x.block(1, 5), 7);
        x.write(0, 0, -2, 1);
        Due.due("P4 not possible uses nothing", x.block(0, 5), 7);
        x.write(0, 0, 5, 1);
        Due.due("P4 the named one is used", x.block(0, 5), 0);
        Due.due("P4 the hit one is not", x.block(1, 5), 7);
        x.pass(3);
        x.write(0, 0, 20, 1);
        Due.due("P4 a free word uses it too", x.block(0, 5), 0);
    }

    private static void wordsAreFresh() {
        GuardedPool x = new GuardedPool();
        x.ask(0, 6);
        for (int index = -1; index <= 6; index++) {
            x.write(0, 0, index, 9);
        }
        x.giveBack(0, 0);
        for (int word = 0; word < 16; word++) {
            Due.due("P3 value in a free block", x.word(word, 0), 0);
        }
        x.ask(1, 14);
        for (int word = 0; word < 16; word++) {
            Due.due("P2 words are 0", x.word(word, 0), 0);
        }
    }

    private static void touchTells() {
        GuardedPool x = new GuardedPool();
        x.ask(0, 1);
        Due.due("P5 at once", x.touch(0), GuardedPool.NONE);
        Due.due("P5 none is not recorded", x.count(10), 1);
        x.pass(12);
        Due.due("P5 after 12", x.touch(0), 12);
        Due.due("P5 recorded", x.count(10), 3);
        Due.due("P5 again", x.touch(0), GuardedPool.NONE);
        x.pass(3);
        x.live(0, false);
        Due.due("P5 of an ended task", x.touch(0), 3);
        Due.due("P5 unknown", x.touch(1), GuardedPool.UNKNOWN);
        Due.due("P5 below 0", x.touch(-1), GuardedPool.UNKNOWN);
        x.giveBack(0, 0);
        Due.due("P5 given back", x.touch(0), GuardedPool.UNKNOWN);
    }
}
