import java.util.function.ToIntFunction;

/** The sentences on undo, keep and restore (promises 15 to 17), and on what a state is. */
final class HistoryBounds extends Bounds {
    private static final String STATE = "A state is everything but the text, the history, the snapshot,"
        + " and what refused() and stopped() tell";

    private HistoryBounds() {
    }

    /** What is told changes by the act, and is as before it behind undo() and behind restore(). */
    private static void comesBack(String name, Calls ahead, Calls act, ToIntFunction<GuardedPool> tell) {
        GuardedPool x = after(ahead);
        int was = tell.applyAsInt(x);
        x.keep();
        act.on(x);
        due(name + " is another one", tell.applyAsInt(x) != was);
        x.undo();
        due(name + " behind undo()", tell.applyAsInt(x), was);
        act.on(x);
        x.restore();
        due(name + " behind restore()", tell.applyAsInt(x), was);
    }

    // ---- promise 15

    static void p15RestoresTheLatest() {
        says(15, "undo() removes and restores the latest one");
        GuardedPool x = new GuardedPool();
        x.pass(1);
        x.pass(2);
        x.undo();
        due("clock", x.count(4), 1);
        due("states", x.count(10), 1);
        x.undo();
        due("clock", x.count(4), 0);
        due("states", x.count(10), 0);
    }

    static void p15RemovesAndRestores() {
        says(15, "Removes and restores the latest state of the history");
        GuardedPool x = new GuardedPool();
        x.pass(1);
        x.undo();
        x.pass(5);
        x.pass(7);
        due("clock", x.count(4), 12);
        x.undo();
        due("clock", x.count(4), 5);
        x.undo();
        due("clock", x.count(4), 0);
        due("no more", x.undo(), NONE);
    }

    static void p15NumberOfStatesLeft() {
        says(15, "Returns the number of states that are left");
        GuardedPool x = new GuardedPool();
        for (int i = 1; i <= 4; i++) {
            x.pass(i);
        }
        for (int left = 3; left >= 0; left--) {
            due("undo()", x.undo(), left);
            due("count(10)", x.count(10), left);
        }
    }

    static void p15NoneIfEmpty() {
        says(15, "NONE if the history is empty");
        GuardedPool x = new GuardedPool();
        due("at first", x.undo(), NONE);
        x.pass(1);
        x.undo();
        due("behind the last", x.undo(), NONE);
        changesNothing("an empty history", y -> {
            y.keep();
            Due.put(y, "s,s");
        }, GuardedPool::undo, NONE);
    }

    static void p15AtMost4States() {
        says(15, "A history of at most 4 states is kept");
        GuardedPool x = new GuardedPool();
        for (int i = 1; i <= 6; i++) {
            x.pass(1);
            due("states behind act " + i, x.count(10), Math.min(i, 4));
        }
    }

    static void p15TheOldestIsDropped() {
        says(15, "when one more is recorded, the oldest one is dropped");
        for (int acts = 4; acts <= 9; acts++) {
            GuardedPool x = new GuardedPool();
            for (int i = 0; i < acts; i++) {
                x.pass(1);
            }
            for (int i = 1; i <= 4; i++) {
                x.undo();
                due("clock behind undo " + i + " of " + acts, x.count(4), acts - i);
            }
            due("the oldest is gone", x.undo(), NONE);
            due("clock", x.count(4), acts - 4);
        }
    }

    static void p15FullAgainBehindUndo() {
        says(15, "when one more is recorded, the oldest one is dropped");
        GuardedPool x = new GuardedPool();
        for (int i = 0; i < 6; i++) {
            x.pass(10);
        }
        x.undo();
        x.undo();
        for (int i = 0; i < 3; i++) {
            x.pass(1);
        }
        int[] clocks = {42, 41, 40, 30};
        for (int clock : clocks) {
            x.undo();
            due("clock", x.count(4), clock);
        }
        due("no more", x.undo(), NONE);
    }

    static void p15UndoIsNoAct() {
        says(15, RECORDS);
        GuardedPool x = after(y -> y.pass(1));
        x.pass(2);
        x.undo();
        x.undo();
        due("an undo is not undone", x.undo(), NONE);
        due("clock", x.count(4), 0);
    }

    static void p15WhatIsNoActRecordsNothing() {
        says(15, RECORDS);
        GuardedPool x = after(Bounds::busy);
        x.undo();
        int states = x.count(10);
        x.keep();
        x.clearText();
        x.type('s');
        x.stopped(0);
        x.block(0, 5);
        x.word(0, 0);
        x.task(0, 0);
        x.reason(0, 1);
        x.greatest(0);
        x.leak(0);
        x.refused(1);
        x.size(0, 0);
        x.count(4);
        due("states", x.count(10), states);
    }

    static void p15NoneAndErrorsRecordNothing() {
        says(15, "returns no error and not NONE");
        GuardedPool x = after(y -> y.ask(0, 1));
        x.touch(0);
        x.live(0, true);
        x.setLimit(0, 32);
        x.setPatience(50);
        x.sweep();
        x.restore();
        due("states behind NONE", x.count(10), 1);
        x.ask(6, 1);
        x.giveBack(0, 7);
        x.write(0, 0, 0, 0);
        x.touch(7);
        x.live(6, false);
        x.setLimit(0, 65);
        x.setPatience(0);
        x.pass(0);
        x.perform();
        due("states behind errors", x.count(10), 1);
    }

    // ---- what a state is

    static void p15StateHoldsBlocks() {
        says(15, STATE);
        Calls two = x -> {
            x.ask(0, 2);
            x.ask(1, 2);
        };
        comesBack("block of a word by ask()", two, x -> x.ask(2, 2), x -> x.word(8, 1));
        comesBack("block of a word by giveBack()", two, x -> x.giveBack(0, 0), x -> x.word(0, 1));
        comesBack("size of a free block", two, x -> x.ask(2, 2), x -> x.word(12, 3));
        comesBack("free blocks", two, x -> x.giveBack(0, 0), x -> x.size(0, 0));
        comesBack("owned blocks", two, x -> x.ask(2, 2), x -> x.count(0));
    }

    static void p15StateHoldsWhatABlockIs() {
        says(15, STATE);
        Calls one = x -> x.ask(0, 2);
        Calls other = x -> Due.perform(x, "f0:0,t2,a3:5");
        comesBack("task of the block", one, other, x -> x.block(x.word(0, 1), 2));
        comesBack("size of the block", one, other, x -> x.block(x.word(0, 1), 1));
        comesBack("words of the block", one, other, x -> x.block(x.word(0, 1), 3));
        comesBack("number of the block", one, other, x -> x.word(0, 1));
    }

    static void p15StateHoldsWords() {
        says(15, STATE);
        Calls written = x -> {
            x.ask(0, 2);
            x.write(0, 0, 0, 9);
        };
        comesBack("value", written, x -> x.write(0, 0, 0, 8), x -> x.word(1, 0));
        comesBack("value of the last word", x -> x.ask(0, 1), x -> x.write(0, 0, 2, 8), x -> x.word(3, 0));
        comesBack("value of what was given back", written, x -> x.giveBack(0, 0), x -> x.word(1, 0));
        comesBack("broken guards", written, x -> x.write(0, 0, 2, 8), x -> x.block(0, 4));
        comesBack("guards that the task broke", written, x -> x.write(0, 0, 2, 8), x -> x.task(0, 6));
        comesBack("guards that were found", x -> {
            x.ask(0, 2);
            x.write(0, 0, 2, 8);
        }, x -> x.giveBack(0, 0), x -> x.count(7));
    }

    static void p15StateHoldsLastWord() {
        says(15, STATE);
        comesBack("value of word 63", x -> {
            for (int i = 0; i < 4; i++) {
                x.ask(i, 9);
            }
        }, x -> x.write(3, 3, 14, 8), x -> x.word(63, 0));
    }

    static void p15StateHoldsUse() {
        says(15, STATE);
        Calls old = x -> {
            x.ask(0, 2);
            x.pass(50);
        };
        comesBack("age by touch()", old, x -> x.touch(0), x -> x.block(0, 5));
        comesBack("age by write()", old, x -> x.write(0, 0, 0, 1), x -> x.block(0, 5));
        comesBack("age by pass()", old, x -> x.pass(3), x -> x.block(0, 5));
        comesBack("leak", old, x -> x.touch(0), x -> x.block(0, 6));
    }

    static void p15StateHoldsTasks() {
        says(15, STATE);
        for (int i = 0; i < 6; i++) {
            int task = i;
            comesBack("alive " + task, x -> { }, x -> x.live(task, false), x -> x.task(task, 0));
            comesBack("anew " + task, x -> x.live(task, false), x -> x.live(task, true), x -> x.task(task, 0));
            comesBack("limit " + task, x -> { }, x -> x.setLimit(task, 9), x -> x.task(task, 4));
        }
    }

    static void p15StateHoldsClockAndPatience() {
        says(15, STATE);
        comesBack("clock", x -> x.pass(3), x -> x.pass(4), x -> x.count(4));
        comesBack("patience", x -> x.setPatience(3), x -> x.setPatience(4), x -> x.count(9));
    }

    static void p15StateHoldsCounts() {
        says(15, STATE);
        comesBack("splits", x -> { }, x -> x.ask(0, 2), x -> x.count(5));
        comesBack("joins", x -> x.ask(0, 2), x -> x.giveBack(0, 0), x -> x.count(6));
        comesBack("granted", x -> x.ask(0, 2), x -> x.ask(0, 2), x -> x.count(8));
        comesBack("next number", x -> x.ask(0, 2), x -> x.ask(0, 2), x -> {
            int number = x.ask(5, 1);
            x.undo();
            return number;
        });
    }

    static void p15The300GoBackToo() {
        says(15, STATE);
        GuardedPool x = after(y -> grant(y, 299));
        due("the last", x.ask(0, 1), 299);
        due("no more", x.ask(0, 1), FULL);
        x.undo();
        due("the last again", x.ask(1, 9), 299);
    }

    static void p15TheTextIsNoState() {
        says(15, "A state is everything but the text");
        GuardedPool x = after(y -> y.pass(1));
        Due.put(x, "t2");
        x.undo();
        due("length", x.count(11), 2);
        x.keep();
        x.type('5');
        x.restore();
        due("length behind restore()", x.count(11), 3);
        x.perform();
        due("clock", x.count(4), 25);
    }

    static void p15RefusedIsNoState() {
        says(15, "and what refused() and stopped() tell");
        GuardedPool x = after(y -> y.keep());
        x.setLimit(0, 0);
        x.ask(0, 1);
        x.undo();
        due("refused(2)", x.refused(2), 1);
        x.restore();
        due("refused(2) behind restore()", x.refused(2), 1);
    }

    static void p15StoppedIsNoState() {
        says(15, "and what refused() and stopped() tell");
        GuardedPool x = after(y -> y.keep());
        x.pass(1);
        Due.perform(x, "s,f0:0");
        x.undo();
        due("stopped(0)", x.stopped(0), 1);
        x.restore();
        due("stopped(1) behind restore()", x.stopped(1), UNKNOWN);
    }

    static void p15TheSnapshotIsNoState() {
        says(15, STATE);
        GuardedPool x = after(y -> y.pass(1));
        x.keep();
        x.undo();
        due("there is one still", x.restore(), 0);
        due("clock of it", x.count(4), 1);
    }

    // ---- promise 16

    static void p16TakesASnapshot() {
        says(16, "Takes a snapshot of the state, in place of the one that was");
        GuardedPool x = after(y -> y.pass(1));
        x.keep();
        x.pass(2);
        x.keep();
        x.pass(4);
        x.restore();
        due("clock of the later one", x.count(4), 3);
    }

    static void p16OneSnapshot() {
        says(16, "There is one snapshot, empty at first");
        GuardedPool x = new GuardedPool();
        due("empty", x.restore(), NONE);
        x.keep();
        due("taken", x.restore(), 0);
    }

    static void p16ItIsACopy() {
        says(16, "Takes a snapshot of the state");
        GuardedPool x = after(Bounds::busy);
        String kept = Told.state(x);
        x.keep();
        Due.perform(x, "f0:0,a1:9,t99,e3,s");
        x.setLimit(4, 4);
        x.setPatience(4);
        x.restore();
        due("all is as kept", Told.state(x).equals(kept));
        x.write(0, 0, 1, 77);
        x.giveBack(1, 1);
        x.restore();
        due("all is as kept again", Told.state(x).equals(kept));
    }

    static void p16HowManyBlocksAreOwned() {
        says(16, "Returns how many blocks are owned");
        GuardedPool x = new GuardedPool();
        due("none", x.keep(), 0);
        x.ask(0, 1);
        due("one", x.keep(), 1);
        x.ask(1, 1);
        x.live(1, false);
        due("two, one of an ended task", x.keep(), 2);
        for (int i = 0; i < 14; i++) {
            x.ask(2 + i / 7, 1);
        }
        due("sixteen", x.keep(), 16);
    }

    static void p16IsNoAct() {
        says(16, RECORDS);
        GuardedPool x = after(y -> y.pass(1));
        x.keep();
        due("states", x.count(10), 1);
    }

    // ---- promise 17

    static void p17RestoresTheState() {
        says(17, "Restores the state of the snapshot, which stays");
        GuardedPool x = after(y -> y.ask(0, 1));
        x.keep();
        for (int i = 0; i < 3; i++) {
            x.ask(1, 1);
            due("restore()", x.restore(), 1);
            due("owned", x.count(0), 1);
        }
    }

    static void p17HowManyBlocksAreOwnedThen() {
        says(17, "Returns how many blocks are owned then");
        GuardedPool x = after(y -> y.keep());
        x.ask(0, 1);
        due("none", x.restore(), 0);
        x.ask(0, 1);
        x.ask(0, 1);
        x.keep();
        x.giveBack(0, 0);
        due("two", x.restore(), 2);
    }

    static void p17NoneWithoutASnapshot() {
        says(17, "NONE if there is no snapshot");
        changesNothing("restore()", y -> {
            y.ask(0, 1);
            y.pass(3);
        }, GuardedPool::restore, NONE);
    }

    static void p17IsAnAct() {
        says(17, IS_AN_ACT);
        isOneAct("restore()", Bounds::busy, GuardedPool::restore, 2);
        isOneAct("restore() of what is", x -> x.keep(), GuardedPool::restore, 0);
    }

    static void p17TheHistoryIsNoState() {
        says(17, "A state is everything but the text, the history");
        GuardedPool x = after(y -> y.keep());
        x.pass(1);
        x.pass(2);
        x.restore();
        due("states", x.count(10), 3);
        x.undo();
        due("clock", x.count(4), 3);
        x.undo();
        due("clock", x.count(4), 1);
        x.undo();
        due("clock", x.count(4), 0);
    }
}
