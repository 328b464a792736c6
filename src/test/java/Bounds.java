import java.util.function.ToIntFunction;

/**
 * What the tests of single sentences share. Each is a method named after its promise, which first quotes the
 * sentence that it holds to; BoundsTest calls them all.
 */
abstract class Bounds {
    static final int UNKNOWN = -1;
    static final int BAD_VALUE = -2;
    static final int FULL = -3;
    static final int NOT_POSSIBLE = -4;
    static final int NONE = -5;
    static final int REFUSED = -6;

    static final String ORDER = "the order of the @return line is the order of the checks";
    static final String CHANGES_NOTHING = "A call that returns an error or NONE changes nothing";
    static final String IS_AN_ACT = "This is an act";
    static final String RECORDS = "Each call of a method that is described as an act, and returns no error and not NONE,"
        + " records the state that was before it";

    private static final int LEAST = Integer.MIN_VALUE;
    private static final int MOST = Integer.MAX_VALUE;
    static final int[] NO_TASKS = {-1, 6, LEAST, MOST};
    /** Numbers that no block has in a pool that granted fewer than 299. */
    static final int[] NO_BLOCKS = {-1, 299, 300, LEAST, MOST};

    private static String sentence = "";
    private static int promise;

    interface Calls {
        void on(GuardedPool x);
    }

    static void says(int number, String words) {
        promise = number;
        sentence = "P" + number + " \"" + words + "\"";
        due("stands in the document", Doc.quote(number, words));
    }

    static int promiseOfLastSentence() {
        return promise;
    }

    static void due(String call, long got, long want) {
        Due.due(sentence + ": " + call, got, want);
    }

    static void due(String what, boolean holds) {
        due(what, holds ? 1 : 0, 1);
    }

    /** A call whose last argument is each of the values: all must be answered by the same. */
    static void each(String call, int[] values, ToIntFunction<Integer> answer, int want) {
        for (int value : values) {
            due(call + " with " + value, answer.applyAsInt(value), want);
        }
    }

    /** The least and the most of a range are no error, one beyond each of them is. */
    static void range(String call, int least, int most, ToIntFunction<Integer> answer, int error) {
        due(call + " with " + least, answer.applyAsInt(least) != error);
        due(call + " with " + most, answer.applyAsInt(most) != error);
        each(call, new int[] {least - 1, most + 1, LEAST, MOST}, answer, error);
    }

    static GuardedPool after(Calls calls) {
        GuardedPool x = new GuardedPool();
        calls.on(x);
        return x;
    }

    /**
     * Block 0 of task 0 at word 0 (2 words asked, its rear guard broken), 1 of task 1 at 8 (4 words), 2 of task 5,
     * which has ended, at 16 (14 words); the clock is at 9, the history and the snapshot are not empty.
     */
    static void busy(GuardedPool x) {
        x.ask(0, 2);
        x.ask(1, 4);
        x.keep();
        x.write(0, 0, 0, 7);
        x.write(0, 0, 2, 8);
        x.pass(9);
        x.ask(5, 14);
        x.live(5, false);
        Due.put(x, "a0:1,t5");
        x.undo();
        x.live(5, false);
    }

    /** Brings the count of granted requests to 297, 298, 299 or 300 by few calls; all blocks are free then. */
    static void grant(GuardedPool x, int granted) {
        x.setLimit(0, 64);
        Due.put(x, "a0:1,".repeat(11) + "e0,s");
        for (int i = 0; i < 27; i++) {
            x.perform();
            x.live(0, true);
        }
        for (int block = 297; block < granted; block++) {
            x.ask(0, 1);
            x.giveBack(0, block);
        }
        x.clearText();
    }

    /** Brings the clock to 9500 and some ticks more. */
    static void passTo9500And(GuardedPool x, int ticks) {
        for (int i = 0; i < 19; i++) {
            x.pass(500);
        }
        if (ticks > 0) {
            x.pass(ticks);
        }
    }

    private static String told(Calls ahead, ToIntFunction<GuardedPool> call, Calls behind) {
        GuardedPool x = after(ahead);
        call.applyAsInt(x);
        behind.on(x);
        return Told.all(x);
    }

    private static boolean tellsTheSame(Calls ahead, ToIntFunction<GuardedPool> call, Calls behind) {
        return told(ahead, call, behind).equals(told(ahead, x -> 0, behind));
    }

    /** A call answers this; the state, the text, the history and the snapshot are as without it. */
    static void changesNothing(String name, Calls ahead, ToIntFunction<GuardedPool> call, int want) {
        due(name, call.applyAsInt(after(ahead)), want);
        for (int undos = 0; undos <= 4; undos++) {
            int times = undos;
            due(name + " changes nothing that " + undos + " undo() bring back", tellsTheSame(ahead, call, x -> {
                for (int i = 0; i < times; i++) {
                    x.undo();
                }
            }));
        }
        due(name + " changes nothing in the snapshot", tellsTheSame(ahead, call, x -> x.restore()));
    }

    /** A call answers this and records one state, which undo() brings back, and nothing but it. */
    static void isOneAct(String name, Calls ahead, ToIntFunction<GuardedPool> call, int want) {
        GuardedPool x = after(ahead);
        int states = x.count(10);
        due(name, call.applyAsInt(x), want);
        due("states behind " + name, x.count(10), Math.min(states + 1, 4));
        due("undo() behind " + name, x.undo(), Math.min(states, 3));
        due(name + " is undone", Told.state(x).equals(Told.state(after(ahead))));
    }
}
