/** Promises 18 to 26: block, word, task, reason, greatest, leak, refused, size, count. */
public final class ToldTest {
    private ToldTest() {
    }

    public static void main(String[] args) {
        constants();
        blockTells();
        wordTells();
        taskTells();
        reasonTells();
        greatestTells();
        leakTells();
        refusedTells();
        sizeTells();
        countTells();
        tellingChangesNothing();
        Due.end("ToldTest");
    }

    private static void constants() {
        Due.due("UNKNOWN", GuardedPool.UNKNOWN, -1);
        Due.due("BAD_VALUE", GuardedPool.BAD_VALUE, -2);
        Due.due("FULL", GuardedPool.FULL, -3);
        Due.due("NOT_POSSIBLE", GuardedPool.NOT_POSSIBLE, -4);
        Due.due("NONE", GuardedPool.NONE, -5);
        Due.due("REFUSED", GuardedPool.REFUSED, -6);
    }

    /** Blocks 0 (task 0, small, at 0), 1 (task 1, great, at 16), 2 (task 0, middle, at 8). */
    private static GuardedPool threeBlocks() {
        GuardedPool x = new GuardedPool();
        x.setPatience(20);
        x.ask(0, 1);
        x.pass(10);
        x.ask(1, 9);
        x.ask(0, 3);
        x.write(0, 0, 1, 60);
        x.pass(15);
        x.write(1, 1, 0, 61);
        x.write(1, 1, -1, 62);
        x.pass(5);
        return x;
    }

    private static void blockTells() {
        GuardedPool x = threeBlocks();
        int[][] told = {{0, 0, 0, 1, 1, 20, 1}, {16, 2, 1, 9, 1, 5, 0}, {8, 1, 0, 3, 0, 20, 1}};
        for (int block = 0; block < told.length; block++) {
            for (int what = 0; what < 7; what++) {
                Due.due("P18 block " + block + ", " + what, x.block(block, what), told[block][what]);
            }
            Due.due("P18 7", x.block(block, 7), GuardedPool.BAD_VALUE);
            Due.due("P18 -1", x.block(block, -1), GuardedPool.BAD_VALUE);
        }
        int[] unknown = {3, -1, 300, Integer.MIN_VALUE, Integer.MAX_VALUE};
        for (int block : unknown) {
            Due.due("P18 unknown " + block, x.block(block, 0), GuardedPool.UNKNOWN);
            Due.due("P18 unknown first " + block, x.block(block, 7), GuardedPool.UNKNOWN);
        }
        x.live(1, false);
        Due.due("P18 a leak of an ended task", x.block(1, 6), 1);
        x.giveBack(0, 0);
        Due.due("P18 given back", x.block(0, 0), GuardedPool.UNKNOWN);
        x.ask(2, 1);
        Due.due("P18 its place has another number", x.block(0, 0), GuardedPool.UNKNOWN);
        Due.due("P18 the other number", x.block(3, 0), 0);
    }

    private static void wordTells() {
        GuardedPool x = threeBlocks();
        int[] words = {0, 1, 2, 3, 4, 7, 8, 9, 11, 12, 15, 16, 17, 26, 27, 31, 32, 63};
        int[] blocks = {0, 0, 0, 0, -5, -5, 2, 2, 2, 2, 2, 1, 1, 1, 1, 1, -5, -5};
        int[] guards = {1, 0, 1, 0, 0, 0, 1, 0, 0, 1, 0, 1, 0, 1, 0, 0, 0, 0};
        int[] sizes = {0, 0, 0, 0, 0, 0, 1, 1, 1, 1, 1, 2, 2, 2, 2, 2, 2, 2};
        int[] values = {0, 0, 60, 0, 0, 0, 0, 0, 0, 0, 0, 62, 61, 0, 0, 0, 0, 0};
        for (int i = 0; i < words.length; i++) {
            Due.due("P19 value of " + words[i], x.word(words[i], 0), values[i]);
            Due.due("P19 block of " + words[i], x.word(words[i], 1), blocks[i]);
            Due.due("P19 guard at " + words[i], x.word(words[i], 2), guards[i]);
            Due.due("P19 size at " + words[i], x.word(words[i], 3), sizes[i]);
        }
        Due.due("P19 word 64", x.word(64, 0), GuardedPool.UNKNOWN);
        Due.due("P19 word -1", x.word(-1, 0), GuardedPool.UNKNOWN);
        Due.due("P19 far", x.word(Integer.MAX_VALUE, 1), GuardedPool.UNKNOWN);
        Due.due("P19 far below", x.word(Integer.MIN_VALUE, 1), GuardedPool.UNKNOWN);
        Due.due("P19 unknown first", x.word(64, 4), GuardedPool.UNKNOWN);
        Due.due("P19 what 4", x.word(0, 4), GuardedPool.BAD_VALUE);
        Due.due("P19 what -1", x.word(63, -1), GuardedPool.BAD_VALUE);
    }

    private static void taskTells() {
        GuardedPool x = threeBlocks();
        int[][] told = {{1, 2, 12, 4, 32, 2, 1}, {1, 1, 16, 9, 32, 0, 1}, {1, 0, 0, 0, 32, 0, 0}};
        for (int task = 0; task < told.length; task++) {
            for (int what = 0; what < 7; what++) {
                Due.due("P20 task " + task + ", " + what, x.task(task, what), told[task][what]);
            }
        }
        x.live(1, false);
        x.setLimit(1, 5);
        Due.due("P20 ended", x.task(1, 0), 0);
        Due.due("P20 limit", x.task(1, 4), 5);
        Due.due("P20 leaks", x.task(1, 5), 1);
        Due.due("P20 what 7", x.task(0, 7), GuardedPool.BAD_VALUE);
        Due.due("P20 what -1", x.task(5, -1), GuardedPool.BAD_VALUE);
        Due.due("P20 task 6", x.task(6, 0), GuardedPool.UNKNOWN);
        Due.due("P20 task -1", x.task(-1, 7), GuardedPool.UNKNOWN);
    }

    private static void reasonTells() {
        GuardedPool x = new GuardedPool();
        x.setLimit(0, 64);
        for (int i = 0; i < 3; i++) {
            x.ask(0, 14);
        }
        x.ask(1, 2);
        Due.due("P21 granted", x.reason(0, 6), 0);
        Due.due("P21 no great one", x.reason(2, 7), 3);
        Due.due("P21 room, within the limit", x.reason(0, 14), 3);
        x.setLimit(0, 52);
        Due.due("P21 a small one", x.reason(0, 2), 0);
        Due.due("P21 not a middle one", x.reason(0, 3), 2);
        Due.due("P21 limit ahead of room", x.reason(0, 14), 2);
        x.live(0, false);
        Due.due("P21 ended", x.reason(0, 1), 1);
        Due.due("P21 ended ahead of all", x.reason(0, 14), 1);
        Due.due("P21 words 0", x.reason(0, 0), GuardedPool.BAD_VALUE);
        Due.due("P21 words 15", x.reason(1, 15), GuardedPool.BAD_VALUE);
        Due.due("P21 task 6", x.reason(6, 0), GuardedPool.UNKNOWN);
        Due.due("P21 task -1", x.reason(-1, 1), GuardedPool.UNKNOWN);
        for (int reason = 1; reason <= 3; reason++) {
            Due.due("P24 telling is no call of ask", x.refused(reason), 0);
        }
    }

    private static void greatestTells() {
        GuardedPool x = new GuardedPool();
        Due.due("P22 at first", x.greatest(0), 14);
        int[] limits = {0, 3, 4, 7, 8, 15, 16, 64};
        int[] due = {-5, -5, 2, 2, 6, 6, 14, 14};
        for (int i = 0; i < limits.length; i++) {
            x.setLimit(0, limits[i]);
            Due.due("P22 limit " + limits[i], x.greatest(0), due[i]);
        }
        x.ask(0, 14);
        x.ask(0, 14);
        x.ask(0, 14);
        x.ask(1, 6);
        Due.due("P22 by room", x.greatest(0), 6);
        x.ask(1, 1);
        Due.due("P22 by room again", x.greatest(2), 2);
        x.ask(1, 1);
        Due.due("P22 no room", x.greatest(2), GuardedPool.NONE);
        x.giveBack(0, 0);
        x.live(3, false);
        Due.due("P22 ended", x.greatest(3), GuardedPool.NONE);
        Due.due("P22 task 6", x.greatest(6), GuardedPool.UNKNOWN);
        Due.due("P22 task -1", x.greatest(-1), GuardedPool.UNKNOWN);
    }

    private static void leakTells() {
        GuardedPool x = new GuardedPool();
        x.ask(0, 1);
        x.ask(1, 1);
        x.pass(10);
        x.ask(0, 1);
        x.ask(2, 1);
        x.pass(10);
        x.touch(0);
        Due.due("P23 none", x.leak(0), GuardedPool.NONE);
        x.setPatience(10);
        int[] due = {1, 2, 3};
        for (int rank = 0; rank < due.length; rank++) {
            Due.due("P23 rank " + rank, x.leak(rank), due[rank]);
        }
        Due.due("P23 not so many", x.leak(3), GuardedPool.NONE);
        x.live(0, false);
        int[] more = {1, 2, 3, 0};
        for (int rank = 0; rank < more.length; rank++) {
            Due.due("P23 ended, rank " + rank, x.leak(rank), more[rank]);
        }
        Due.due("P23 far", x.leak(Integer.MAX_VALUE), GuardedPool.NONE);
        Due.due("P23 -1", x.leak(-1), GuardedPool.BAD_VALUE);
        Due.due("P23 far below", x.leak(Integer.MIN_VALUE), GuardedPool.BAD_VALUE);
        lowestNumberNotLowestPlace();
    }

    private static void lowestNumberNotLowestPlace() {
        GuardedPool x = new GuardedPool();
        x.ask(0, 14);
        x.ask(0, 14);
        x.giveBack(0, 0);
        x.ask(0, 14);
        x.live(0, false);
        Due.due("P23 the lowest number is at word 16", x.leak(0), 1);
        Due.due("P23 the next at word 0", x.leak(1), 2);
    }

    private static void refusedTells() {
        GuardedPool x = new GuardedPool();
        x.live(0, false);
        x.ask(0, 1);
        x.ask(0, 14);
        x.setLimit(1, 3);
        x.ask(1, 1);
        for (int i = 0; i < 4; i++) {
            x.ask(2 + i / 2, 14);
        }
        x.ask(4, 1);
        x.ask(4, 2);
        x.ask(5, 3);
        x.ask(6, 1);
        x.ask(5, 0);
        int[] due = {2, 1, 3};
        for (int reason = 1; reason <= 3; reason++) {
            Due.due("P24 reason " + reason, x.refused(reason), due[reason - 1]);
        }
        Due.due("P24 0", x.refused(0), GuardedPool.BAD_VALUE);
        Due.due("P24 4", x.refused(4), GuardedPool.BAD_VALUE);
        Due.due("P24 far", x.refused(Integer.MIN_VALUE), GuardedPool.BAD_VALUE);
    }

    private static void sizeTells() {
        GuardedPool x = threeBlocks();
        int[][] told = {{1, 1, 4}, {0, 1, GuardedPool.NONE}, {2, 1, 32}};
        for (int size = 0; size < 3; size++) {
            for (int what = 0; what < 3; what++) {
                Due.due("P25 size " + size + ", " + what, x.size(size, what), told[size][what]);
            }
            Due.due("P25 what 3", x.size(size, 3), GuardedPool.BAD_VALUE);
            Due.due("P25 what -1", x.size(size, -1), GuardedPool.BAD_VALUE);
        }
        Due.due("P25 size 3", x.size(3, 3), GuardedPool.UNKNOWN);
        Due.due("P25 size -1", x.size(-1, 0), GuardedPool.UNKNOWN);
    }

    private static void countTells() {
        GuardedPool x = threeBlocks();
        Due.put(x, "hello");
        int[] told = {3, 36, 15, 2, 30, 2, 0, 0, 3, 20, 4, 5};
        for (int what = 0; what < told.length; what++) {
            Due.due("P26 count " + what, x.count(what), told[what]);
        }
        x.giveBack(1, 1);
        x.sweep();
        int[] then = {0, 64, 0, 0, 30, 2, 2, 2, 3, 20, 4, 5};
        for (int what = 0; what < then.length; what++) {
            Due.due("P26 count then " + what, x.count(what), then[what]);
        }
        Due.due("P26 12", x.count(12), GuardedPool.BAD_VALUE);
        Due.due("P26 -1", x.count(-1), GuardedPool.BAD_VALUE);
        Due.due("P26 far", x.count(Integer.MAX_VALUE), GuardedPool.BAD_VALUE);
    }

    private static void tellingChangesNothing() {
        GuardedPool x = threeBlocks();
        x.block(0, 5);
        x.word(0, 0);
        x.task(0, 0);
        x.reason(0, 14);
        x.greatest(0);
        x.leak(0);
        x.refused(1);
        x.size(0, 2);
        Due.due("history", x.count(10), 4);
        Due.due("use", x.block(0, 5), 20);
    }
}
