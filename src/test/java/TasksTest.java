/** Promises 6 to 10: live, setLimit, setPatience, pass, sweep. */
public final class TasksTest {
    private TasksTest() {
    }

    public static void main(String[] args) {
        liveTells();
        setLimitTells();
        setPatienceTells();
        passTells();
        passToTheEndOfTheClock();
        sweepTakesLeaks();
        sweepCountsGuards();
        Due.end("TasksTest");
    }

    private static void liveTells() {
        GuardedPool x = new GuardedPool();
        x.ask(0, 1);
        x.ask(0, 1);
        x.ask(1, 1);
        Due.due("P6 alive already", x.live(0, true), GuardedPool.NONE);
        Due.due("P6 none is not recorded", x.count(10), 3);
        Due.due("P6 ends", x.live(0, false), 2);
        Due.due("P6 recorded", x.count(10), 4);
        Due.due("P6 ended", x.task(0, 0), 0);
        Due.due("P6 the blocks stay", x.task(0, 1), 2);
        Due.due("P6 leaks at once", x.count(3), 2);
        Due.due("P6 ended already", x.live(0, false), GuardedPool.NONE);
        Due.due("P6 anew", x.live(0, true), 2);
        Due.due("P6 no leaks", x.count(3), 0);
        Due.due("P6 its own still", x.block(0, 2), 0);
        Due.due("P6 without blocks", x.live(5, false), 0);
        Due.due("P6 task 6", x.live(6, false), GuardedPool.UNKNOWN);
        Due.due("P6 task -1", x.live(-1, true), GuardedPool.UNKNOWN);
    }

    private static void setLimitTells() {
        GuardedPool x = new GuardedPool();
        Due.due("P7 the first", x.setLimit(3, 64), 32);
        Due.due("P7 the previous", x.setLimit(3, 0), 64);
        Due.due("P7 so already", x.setLimit(3, 0), GuardedPool.NONE);
        Due.due("P7 recorded", x.count(10), 2);
        Due.due("P7 of this task alone", x.setLimit(2, 32), GuardedPool.NONE);
        Due.due("P7 65", x.setLimit(3, 65), GuardedPool.BAD_VALUE);
        Due.due("P7 -1", x.setLimit(3, -1), GuardedPool.BAD_VALUE);
        Due.due("P7 unknown first", x.setLimit(6, 65), GuardedPool.UNKNOWN);
        Due.due("P7 task -1", x.setLimit(-1, 1), GuardedPool.UNKNOWN);
        Due.due("P7 told", x.task(3, 4), 0);
        Due.due("P7 nothing is granted", x.ask(3, 1), GuardedPool.REFUSED);
        x.ask(2, 14);
        Due.due("P7 below what it owns", x.setLimit(2, 3), 32);
        Due.due("P7 the block stays", x.task(2, 2), 16);
    }

    private static void setPatienceTells() {
        GuardedPool x = new GuardedPool();
        x.ask(0, 1);
        x.pass(30);
        Due.due("P8 so already", x.setPatience(50), GuardedPool.NONE);
        Due.due("P8 the previous", x.setPatience(31), 50);
        Due.due("P8 no leak", x.count(3), 0);
        Due.due("P8 one less", x.setPatience(30), 31);
        Due.due("P8 a leak", x.count(3), 1);
        Due.due("P8 the least", x.setPatience(1), 30);
        Due.due("P8 the most", x.setPatience(500), 1);
        Due.due("P8 no leak again", x.count(3), 0);
        Due.due("P8 0", x.setPatience(0), GuardedPool.BAD_VALUE);
        Due.due("P8 501", x.setPatience(501), GuardedPool.BAD_VALUE);
        Due.due("P8 far", x.setPatience(Integer.MIN_VALUE), GuardedPool.BAD_VALUE);
        Due.due("P8 told", x.count(9), 500);
    }

    private static void passTells() {
        GuardedPool x = new GuardedPool();
        x.setPatience(10);
        x.ask(0, 1);
        x.pass(5);
        x.ask(0, 1);
        x.ask(1, 1);
        x.live(1, false);
        Due.due("P9 a tick too few", x.pass(4), 0);
        Due.due("P9 the first becomes one", x.pass(1), 1);
        Due.due("P9 not twice", x.pass(1), 0);
        Due.due("P9 an ended task's was one", x.pass(4), 1);
        Due.due("P9 three leaks", x.count(3), 3);
        Due.due("P9 clock", x.count(4), 15);
        Due.due("P9 0", x.pass(0), GuardedPool.BAD_VALUE);
        Due.due("P9 -1", x.pass(-1), GuardedPool.BAD_VALUE);
        Due.due("P9 501", x.pass(501), GuardedPool.BAD_VALUE);
        Due.due("P9 far", x.pass(Integer.MAX_VALUE), GuardedPool.BAD_VALUE);
        Due.due("P9 clock stays", x.count(4), 15);
    }

    private static void passToTheEndOfTheClock() {
        GuardedPool x = new GuardedPool();
        for (int i = 0; i < 19; i++) {
            x.pass(500);
        }
        Due.due("P9 beyond", x.pass(500), GuardedPool.FULL);
        Due.due("P9 bad value ahead of full", x.pass(501), GuardedPool.BAD_VALUE);
        Due.due("P9 to the end", x.pass(499), 0);
        Due.due("P9 the clock's end", x.count(4), 9999);
        Due.due("P9 full", x.pass(1), GuardedPool.FULL);
        Due.due("P9 recorded", x.count(10), 4);
        Due.due("P15 undo", x.undo(), 3);
        Due.due("P9 one tick", x.pass(1), 0);
    }

    private static void sweepTakesLeaks() {
        GuardedPool x = new GuardedPool();
        Due.due("P10 nothing owned", x.sweep(), GuardedPool.NONE);
        x.ask(0, 1);
        x.ask(1, 1);
        x.ask(0, 1);
        Due.due("P10 no leak", x.sweep(), GuardedPool.NONE);
        Due.due("P10 none is not recorded", x.count(10), 3);
        x.live(0, false);
        Due.due("P10 of the ended task", x.sweep(), 2);
        Due.due("P10 the other stays", x.block(1, 2), 1);
        Due.due("P10 gone", x.block(0, 0), GuardedPool.UNKNOWN);
        Due.due("P10 joins", x.count(6), 1);
        Due.due("P10 no more", x.sweep(), GuardedPool.NONE);
        x.pass(50);
        Due.due("P10 by age", x.sweep(), 1);
        Due.due("P10 all joined", x.size(2, 0), 4);
        Due.due("P10 joins again", x.count(6), 1 + 2);
        Due.due("P10 undo", x.undo(), 3);
        Due.due("P10 a leak again", x.leak(0), 1);
    }

    private static void sweepCountsGuards() {
        GuardedPool x = new GuardedPool();
        x.ask(0, 2);
        x.ask(0, 2);
        x.ask(1, 2);
        x.write(0, 0, -1, 1);
        x.write(0, 0, 2, 1);
        x.write(0, 1, 2, 1);
        x.write(1, 2, 2, 1);
        x.live(0, false);
        Due.due("P10 whatever their guards", x.sweep(), 2);
        Due.due("P26 found broken", x.count(7), 3);
        Due.due("P18 not looked at", x.block(2, 4), 1);
    }
}
