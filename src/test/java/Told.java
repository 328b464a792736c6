/** All that a pool tells, in one text and in fewer than 512 calls, so that two pools can be compared. */
final class Told {
    private static final int STATE_COUNTS = 10;
    private static final int COUNTS = 12;

    private Told() {
    }

    /** All that belongs to a state. */
    static String state(GuardedPool x) {
        StringBuilder told = new StringBuilder();
        int last = GuardedPool.NONE;
        for (int word = 0; word < 64; word++) {
            int block = x.word(word, 1);
            told.append("\nword ").append(word).append(": ").append(x.word(word, 0)).append(' ').append(block)
                .append(' ').append(x.word(word, 2));
            if (block >= 0 && block != last) {
                block(told, x, block);
            }
            last = block;
        }
        for (int task = 0; task < 6; task++) {
            told.append("\ntask ").append(task).append(':');
            for (int what = 0; what < 7; what++) {
                told.append(' ').append(x.task(task, what));
            }
        }
        for (int size = 0; size < 3; size++) {
            told.append("\nsize ").append(size).append(": ").append(x.size(size, 0)).append(' ').append(x.size(size, 2));
        }
        counts(told, x, 0, STATE_COUNTS);
        return told.toString();
    }

    /** The state, the length of the history and the length of the text. */
    static String all(GuardedPool x) {
        StringBuilder told = new StringBuilder(state(x));
        counts(told, x, STATE_COUNTS, COUNTS);
        return told.toString();
    }

    private static void block(StringBuilder told, GuardedPool x, int block) {
        told.append("\nblock ").append(block).append(':');
        for (int what = 0; what < 7; what++) {
            told.append(' ').append(x.block(block, what));
        }
    }

    private static void counts(StringBuilder told, GuardedPool x, int from, int to) {
        for (int what = from; what < to; what++) {
            told.append("\ncount ").append(what).append(": ").append(x.count(what));
        }
    }
}
