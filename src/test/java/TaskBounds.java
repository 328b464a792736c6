/** The sentences on live, setLimit, setPatience, pass and sweep (promises 6 to 10). */
final class TaskBounds extends Bounds {
    private TaskBounds() {
    }

    // ---- promise 6

    static void p6TaskFrom0To5() {
        says(6, "`task`: 0 to 5");
        GuardedPool x = new GuardedPool();
        for (int task = 0; task <= 5; task++) {
            due("live(" + task + ", false)", x.live(task, false), 0);
        }
        each("live(.., true)", NO_TASKS, task -> x.live(task, true), UNKNOWN);
        each("live(.., false)", NO_TASKS, task -> x.live(task, false), UNKNOWN);
    }

    static void p6AliveThen() {
        says(6, "`alive`: whether it is alive then");
        GuardedPool x = new GuardedPool();
        x.live(2, false);
        due("ended", x.task(2, 0), 0);
        due("the others are alive", x.task(1, 0) + x.task(3, 0), 2);
        x.live(2, true);
        due("alive", x.task(2, 0), 1);
    }

    static void p6Ends() {
        says(6, "Ends a task, or lets it begin anew");
        GuardedPool x = new GuardedPool();
        x.live(2, false);
        due("it gets nothing", x.ask(2, 1), REFUSED);
        x.live(2, true);
        due("it gets a block again", x.ask(2, 1), 0);
    }

    static void p6BlocksStayItsOwn() {
        says(6, "its blocks stay its own");
        GuardedPool x = after(y -> y.ask(2, 5));
        x.ask(2, 1);
        x.live(2, false);
        due("blocks of the ended one", x.task(2, 1), 2);
        due("its task", x.block(0, 2), 2);
        x.live(2, true);
        due("blocks of the one that began anew", x.task(2, 1), 2);
        due("words of them", x.task(2, 2), 12);
    }

    static void p6LimitAndBrokenGuardsStay() {
        says(6, "lets it begin anew");
        GuardedPool x = after(Bounds::busy);
        x.setLimit(0, 9);
        x.live(0, false);
        x.live(0, true);
        due("limit", x.task(0, 4), 9);
        due("guards that it broke", x.task(0, 6), 1);
    }

    static void p6HowManyBlocksItOwns() {
        says(6, "Returns how many blocks it owns");
        GuardedPool x = new GuardedPool();
        due("none", x.live(0, false), 0);
        x.live(0, true);
        x.ask(0, 1);
        x.ask(1, 1);
        due("one", x.live(0, false), 1);
        x.live(0, true);
        for (int i = 1; i < 8; i++) {
            x.ask(0, 1);
        }
        due("eight", x.live(0, false), 8);
        due("eight anew", x.live(0, true), 8);
    }

    static void p6Unknown() {
        says(6, "UNKNOWN");
        due("live(6, true)", new GuardedPool().live(6, true), UNKNOWN);
        due("live(-1, false)", new GuardedPool().live(-1, false), UNKNOWN);
    }

    static void p6NoneIfSoAlready() {
        says(6, "NONE if it is so already");
        GuardedPool x = after(y -> y.ask(0, 1));
        due("alive", x.live(0, true), NONE);
        x.live(0, false);
        due("ended", x.live(0, false), NONE);
    }

    static void p6ItsBlocksAreLeaks() {
        says(6, "It is a leak if its task has ended");
        GuardedPool x = after(y -> y.ask(0, 1));
        x.ask(1, 1);
        x.live(0, false);
        due("its block", x.block(0, 6), 1);
        due("the other's", x.block(1, 6), 0);
        x.live(0, true);
        due("anew", x.block(0, 6), 0);
    }

    static void p6IsAnAct() {
        says(6, IS_AN_ACT);
        isOneAct("ends", Bounds::busy, x -> x.live(1, false), 1);
        isOneAct("begins anew", Bounds::busy, x -> x.live(5, true), 1);
    }

    static void p6ErrorsAndNoneChangeNothing() {
        says(6, CHANGES_NOTHING);
        changesNothing("UNKNOWN", Bounds::busy, x -> x.live(6, false), UNKNOWN);
        changesNothing("NONE, alive", Bounds::busy, x -> x.live(0, true), NONE);
        changesNothing("NONE, ended", Bounds::busy, x -> x.live(5, false), NONE);
    }

    // ---- promise 7

    static void p7TaskFrom0To5() {
        says(7, "`task`: 0 to 5");
        GuardedPool x = new GuardedPool();
        for (int task = 0; task <= 5; task++) {
            due("setLimit(" + task + ", 1)", x.setLimit(task, 1), 32);
        }
        each("setLimit(.., 2)", NO_TASKS, task -> x.setLimit(task, 2), UNKNOWN);
    }

    static void p7WordsFrom0To64() {
        says(7, "`words`: 0 to 64");
        range("setLimit(0, ..)", 0, 64, words -> new GuardedPool().setLimit(0, words), BAD_VALUE);
        GuardedPool x = new GuardedPool();
        x.setLimit(0, 64);
        due("the most", x.task(0, 4), 64);
        x.setLimit(0, 0);
        due("the least", x.task(0, 4), 0);
    }

    static void p7ThePreviousOne() {
        says(7, "Returns the previous one");
        GuardedPool x = new GuardedPool();
        due("the first", x.setLimit(3, 0), 32);
        due("0", x.setLimit(3, 64), 0);
        due("64", x.setLimit(3, 1), 64);
    }

    static void p7SetsTheLimitOfATask() {
        says(7, "Sets the limit of a task");
        GuardedPool x = new GuardedPool();
        x.setLimit(3, 4);
        due("its own", x.task(3, 4), 4);
        due("another's", x.task(2, 4), 32);
        due("within", x.ask(3, 2), 0);
        due("beyond", x.ask(3, 2), REFUSED);
    }

    static void p7BelowWhatItOwns() {
        says(7, "Sets the limit of a task");
        GuardedPool x = after(y -> y.ask(3, 14));
        due("setLimit(3, 0)", x.setLimit(3, 0), 32);
        due("the block stays", x.task(3, 2), 16);
        due("no more", x.ask(3, 1), REFUSED);
    }

    static void p7Unknown() {
        says(7, "UNKNOWN");
        due("setLimit(6, 1)", new GuardedPool().setLimit(6, 1), UNKNOWN);
    }

    static void p7BadValue() {
        says(7, "BAD_VALUE");
        due("setLimit(0, 65)", new GuardedPool().setLimit(0, 65), BAD_VALUE);
        due("setLimit(0, -1)", new GuardedPool().setLimit(0, -1), BAD_VALUE);
    }

    static void p7NoneIfSoAlready() {
        says(7, "NONE if it is so already");
        GuardedPool x = new GuardedPool();
        due("32", x.setLimit(0, 32), NONE);
        x.setLimit(0, 0);
        due("0", x.setLimit(0, 0), NONE);
        due("another's", x.setLimit(1, 0), 32);
    }

    static void p7Order() {
        says(7, ORDER);
        due("UNKNOWN ahead of BAD_VALUE", new GuardedPool().setLimit(6, 65), UNKNOWN);
        due("UNKNOWN ahead of NONE", new GuardedPool().setLimit(-1, 32), UNKNOWN);
    }

    static void p7IsAnAct() {
        says(7, IS_AN_ACT);
        isOneAct("setLimit(5, 0)", Bounds::busy, x -> x.setLimit(5, 0), 32);
    }

    static void p7ErrorsAndNoneChangeNothing() {
        says(7, CHANGES_NOTHING);
        changesNothing("UNKNOWN", Bounds::busy, x -> x.setLimit(6, 1), UNKNOWN);
        changesNothing("BAD_VALUE", Bounds::busy, x -> x.setLimit(0, 65), BAD_VALUE);
        changesNothing("NONE", Bounds::busy, x -> x.setLimit(0, 32), NONE);
    }

    // ---- promise 8

    static void p8TicksFrom1To500() {
        says(8, "`ticks`: 1 to 500");
        range("setPatience(..)", 1, 500, ticks -> new GuardedPool().setPatience(ticks), BAD_VALUE);
        GuardedPool x = new GuardedPool();
        x.setPatience(500);
        due("the most", x.count(9), 500);
        x.setPatience(1);
        due("the least", x.count(9), 1);
    }

    static void p8ThePreviousOne() {
        says(8, "Returns the previous one");
        GuardedPool x = new GuardedPool();
        due("the first", x.setPatience(500), 50);
        due("500", x.setPatience(1), 500);
        due("1", x.setPatience(7), 1);
    }

    static void p8SetsThePatience() {
        says(8, "Sets the patience");
        GuardedPool x = after(y -> y.ask(0, 1));
        x.pass(30);
        x.setPatience(31);
        due("a tick too few", x.count(3), 0);
        x.setPatience(30);
        due("at least so many", x.count(3), 1);
        x.setPatience(29);
        due("more", x.count(3), 1);
        x.setPatience(50);
        due("no leak again", x.count(3), 0);
    }

    static void p8BadValue() {
        says(8, "BAD_VALUE");
        due("setPatience(0)", new GuardedPool().setPatience(0), BAD_VALUE);
        due("setPatience(501)", new GuardedPool().setPatience(501), BAD_VALUE);
    }

    static void p8NoneIfSoAlready() {
        says(8, "NONE if it is so already");
        GuardedPool x = new GuardedPool();
        due("50", x.setPatience(50), NONE);
        x.setPatience(500);
        due("500", x.setPatience(500), NONE);
    }

    static void p8IsAnAct() {
        says(8, IS_AN_ACT);
        isOneAct("setPatience(9)", Bounds::busy, x -> x.setPatience(9), 50);
    }

    static void p8ErrorsAndNoneChangeNothing() {
        says(8, CHANGES_NOTHING);
        changesNothing("BAD_VALUE", Bounds::busy, x -> x.setPatience(501), BAD_VALUE);
        changesNothing("NONE", Bounds::busy, x -> x.setPatience(50), NONE);
    }

    // ---- promise 9

    static void p9TicksFrom1To500() {
        says(9, "`ticks`: 1 to 500");
        range("pass(..)", 1, 500, ticks -> new GuardedPool().pass(ticks), BAD_VALUE);
    }

    static void p9TicksPass() {
        says(9, "Lets ticks pass");
        GuardedPool x = new GuardedPool();
        x.pass(1);
        due("one", x.count(4), 1);
        x.pass(500);
        due("501", x.count(4), 501);
    }

    static void p9BlocksThatBecomeLeaks() {
        says(9, "Returns how many blocks become leaks by that");
        GuardedPool x = after(y -> y.ask(0, 1));
        x.ask(1, 1);
        due("none", x.pass(20), 0);
        x.ask(2, 1);
        due("a tick too few", x.pass(29), 0);
        due("two", x.pass(1), 2);
        due("not those that were leaks", x.pass(19), 0);
        due("the third", x.pass(1), 1);
        due("no more", x.pass(500), 0);
    }

    static void p9AllAtOnce() {
        says(9, "Returns how many blocks become leaks by that");
        GuardedPool x = new GuardedPool();
        x.setPatience(500);
        for (int task = 0; task < 6; task++) {
            x.ask(task, 1);
        }
        due("six", x.pass(500), 6);
    }

    static void p9AnEndedTasksBlocksAreLeaksBefore() {
        says(9, "Returns how many blocks become leaks by that");
        GuardedPool x = after(y -> y.ask(0, 1));
        x.ask(1, 1);
        x.live(0, false);
        due("the other's alone", x.pass(50), 1);
    }

    static void p9PatienceIsReached() {
        says(9, "or if it was not used for at least as many ticks as the patience (1 to 500; at first 50)");
        int[] patiences = {1, 2, 50, 500};
        for (int patience : patiences) {
            GuardedPool x = after(y -> y.ask(0, 1));
            x.setPatience(patience);
            if (patience > 1) {
                due("a tick too few for " + patience, x.pass(patience - 1), 0);
                due("the tick for " + patience, x.pass(1), 1);
            } else {
                due("the tick for 1", x.pass(1), 1);
            }
        }
    }

    static void p9BadValue() {
        says(9, "BAD_VALUE");
        due("pass(0)", new GuardedPool().pass(0), BAD_VALUE);
        due("pass(-1)", new GuardedPool().pass(-1), BAD_VALUE);
        due("pass(501)", new GuardedPool().pass(501), BAD_VALUE);
    }

    static void p9FullBeyond9999() {
        says(9, "FULL if the clock would be beyond 9999");
        GuardedPool x = after(y -> passTo9500And(y, 0));
        due("to 10000", x.pass(500), FULL);
        due("to 9999", x.pass(499), 0);
        due("the clock", x.count(4), 9999);
        due("one more", x.pass(1), FULL);
    }

    static void p9ClockOfAtMost9999() {
        says(9, "There is a clock (0 at first; at most 9999)");
        GuardedPool x = after(y -> passTo9500And(y, 498));
        due("at 9998, two", x.pass(2), FULL);
        due("at 9998, one", x.pass(1), 0);
        due("the clock", x.count(4), 9999);
    }

    static void p9AgeUpTo9999() {
        says(9, "at most 9999");
        GuardedPool x = new GuardedPool();
        x.ask(0, 1);
        passTo9500And(x, 499);
        due("age", x.block(0, 5), 9999);
        due("touch(0)", x.touch(0), 9999);
    }

    static void p9Order() {
        says(9, ORDER);
        GuardedPool x = after(y -> passTo9500And(y, 499));
        due("501", x.pass(501), BAD_VALUE);
        due("0", x.pass(0), BAD_VALUE);
        due("far", x.pass(Integer.MAX_VALUE), BAD_VALUE);
        due("500", x.pass(500), FULL);
    }

    static void p9IsAnAct() {
        says(9, IS_AN_ACT);
        isOneAct("pass(41)", Bounds::busy, x -> x.pass(41), 2);
    }

    static void p9ErrorsChangeNothing() {
        says(9, CHANGES_NOTHING);
        changesNothing("BAD_VALUE", Bounds::busy, x -> x.pass(501), BAD_VALUE);
        changesNothing("FULL", y -> passTo9500And(y, 499), x -> x.pass(1), FULL);
    }

    // ---- promise 10

    static void p10Sweeps() {
        says(10, "Sweeps");
        GuardedPool x = after(y -> y.ask(0, 1));
        x.pass(49);
        x.ask(0, 14);
        x.pass(1);
        x.sweep();
        due("the leak", x.block(0, 0), UNKNOWN);
        due("no leak", x.block(1, 2), 0);
        due("joined", x.size(2, 0), 3);
    }

    static void p10HowManyAreGivenBack() {
        says(10, "Returns how many blocks are given back");
        GuardedPool x = after(y -> y.ask(0, 1));
        x.live(0, false);
        due("one", x.sweep(), 1);
        for (int task = 1; task < 6; task++) {
            x.ask(task, 1);
            x.ask(task, 1);
            x.ask(task, 1);
        }
        x.ask(5, 1);
        x.pass(50);
        due("all sixteen", x.sweep(), 16);
        due("owned", x.count(0), 0);
        due("great ones", x.size(2, 0), 4);
    }

    static void p10NoneWithoutALeak() {
        says(10, "NONE if there is no leak");
        GuardedPool x = new GuardedPool();
        due("without blocks", x.sweep(), NONE);
        x.ask(0, 1);
        x.pass(49);
        due("a tick too early", x.sweep(), NONE);
        x.pass(1);
        due("a leak", x.sweep(), 1);
        due("swept already", x.sweep(), NONE);
    }

    static void p10AllLeaks() {
        says(10, "A sweep gives all leaks back, the lowest first, whatever their guards");
        GuardedPool x = after(y -> y.ask(0, 2));
        x.ask(1, 2);
        x.ask(2, 2);
        x.ask(3, 2);
        x.write(0, 0, -1, 1);
        x.write(0, 0, 2, 1);
        x.write(1, 1, 2, 1);
        x.write(3, 3, 2, 1);
        x.pass(50);
        x.touch(3);
        due("by age, broken or whole", x.sweep(), 3);
        due("guards that were found", x.count(7), 3);
        due("joins", x.count(6), 1);
        due("its guard was not looked at", x.block(3, 4), 1);
        x.live(3, false);
        due("of an ended task", x.sweep(), 1);
        due("guards then", x.count(7), 4);
    }

    static void p10ByEitherReason() {
        says(10, "It is a leak if its task has ended");
        GuardedPool x = after(y -> y.ask(0, 1));
        x.pass(49);
        x.ask(1, 1);
        x.ask(2, 1);
        x.live(1, false);
        x.pass(1);
        due("by age and by its task", x.sweep(), 2);
        due("the third stays", x.block(2, 2), 2);
    }

    static void p10IsAnAct() {
        says(10, IS_AN_ACT);
        isOneAct("sweep()", Bounds::busy, GuardedPool::sweep, 1);
    }

    static void p10NoneChangesNothing() {
        says(10, CHANGES_NOTHING);
        changesNothing("NONE", y -> {
            busy(y);
            y.live(5, true);
        }, GuardedPool::sweep, NONE);
    }
}
