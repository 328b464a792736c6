/** Promises 15 to 17: undo, keep, restore. */
public final class HistoryTest {
    private HistoryTest() {
    }

    public static void main(String[] args) {
        undoTells();
        undoHoldsFour();
        undoBringsBackAll();
        eachActIsUndoneAlone();
        everyActIsRecorded();
        keepTells();
        restoreTells();
        restoreBringsBackAll();
        whatIsNoState();
        Due.end("HistoryTest");
    }

    private static void undoTells() {
        GuardedPool x = new GuardedPool();
        Due.due("P15 empty", x.undo(), GuardedPool.NONE);
        x.ask(0, 1);
        x.ask(0, 1);
        Due.due("P15 one left", x.undo(), 1);
        Due.due("P15 one owned", x.count(0), 1);
        Due.due("P15 none left", x.undo(), 0);
        Due.due("P15 none owned", x.count(0), 0);
        Due.due("P15 empty then", x.undo(), GuardedPool.NONE);
        Due.due("P15 joined again", x.size(2, 0), 4);
        Due.due("P15 no joins counted", x.count(6), 0);
        Due.due("P15 the numbers begin anew", x.ask(0, 1), 0);
    }

    private static void undoHoldsFour() {
        GuardedPool x = new GuardedPool();
        for (int i = 1; i <= 9; i++) {
            x.pass(i);
            Due.due("P26 states", x.count(10), Math.min(i, 4));
        }
        int[] clocks = {36, 28, 21, 15};
        for (int i = 0; i < 4; i++) {
            Due.due("P15 left", x.undo(), 3 - i);
            Due.due("P15 clock", x.count(4), clocks[i]);
        }
        Due.due("P15 the oldest were dropped", x.undo(), GuardedPool.NONE);
        Due.due("P15 clock stays", x.count(4), 15);
        x.pass(1);
        x.pass(2);
        x.undo();
        x.pass(5);
        Due.due("P15 the ring goes on", x.count(10), 2);
        x.undo();
        Due.due("P15 the later one", x.count(4), 16);
        x.undo();
        Due.due("P15 the earlier one", x.count(4), 15);
    }

    private static void undoBringsBackAll() {
        GuardedPool x = new GuardedPool();
        x.ask(0, 2);
        x.write(0, 0, 0, 33);
        x.pass(5);
        x.write(0, 0, 2, 34);
        x.undo();
        Due.due("P15 guard whole", x.block(0, 4), 0);
        Due.due("P15 use", x.block(0, 5), 5);
        Due.due("P15 broke none", x.task(0, 6), 0);
        x.setLimit(0, 7);
        x.undo();
        Due.due("P15 limit", x.task(0, 4), 32);
        x.setPatience(3);
        x.undo();
        Due.due("P15 patience", x.count(9), 50);
        x.live(0, false);
        x.undo();
        Due.due("P15 alive", x.task(0, 0), 1);
        x.write(0, 0, 2, 34);
        x.giveBack(0, 0);
        Due.due("P3 found", x.count(7), 1);
        x.undo();
        Due.due("P15 found none", x.count(7), 0);
        Due.due("P15 owned again", x.block(0, 2), 0);
        Due.due("P15 its value", x.word(1, 0), 33);
        Due.due("P15 its guard", x.word(3, 0), 34);
        Due.due("P15 joins", x.count(6), 0);
        Due.due("P15 splits", x.count(5), 2);
    }

    /** All that is told of a state, in one text. */
    private static String state(GuardedPool x) {
        StringBuilder told = new StringBuilder();
        for (int word = 0; word < 64; word++) {
            for (int what = 0; what < 4; what++) {
                told.append(x.word(word, what)).append(' ');
            }
        }
        for (int block = 0; block < 10; block++) {
            for (int what = 0; what < 7; what++) {
                told.append(x.block(block, what)).append(' ');
            }
        }
        for (int task = 0; task < 6; task++) {
            for (int what = 0; what < 7; what++) {
                told.append(x.task(task, what)).append(' ');
            }
        }
        for (int what = 0; what < 10; what++) {
            told.append(x.count(what)).append(' ');
        }
        return told.toString();
    }

    private static int act(GuardedPool x, int which) {
        switch (which) {
            case 0: return x.ask(0, 2);
            case 1: return x.ask(1, 3);
            case 2: return x.write(0, 0, 0, 9);
            case 3: return x.write(0, 0, 2, 8);
            case 4: return x.pass(9);
            case 5: return x.touch(0);
            case 6: return x.setLimit(0, 20);
            case 7: return x.setPatience(9);
            case 8: return x.ask(2, 2);
            case 9: return x.giveBack(0, 0);
            case 10: return x.sweep();
            case 11: return x.live(2, false);
            case 12: return Due.perform(x, "a5:14,t3,e5,s");
            default: return x.restore();
        }
    }

    /** Each act is done, undone (all is as ahead of it) and done again. */
    private static void eachActIsUndoneAlone() {
        GuardedPool x = new GuardedPool();
        for (int which = 0; which < 14; which++) {
            String ahead = state(x);
            int answer = act(x, which);
            String behind = state(x);
            Due.due("P15 done " + which, answer >= 0 && !behind.equals(ahead) ? 1 : 0, 1);
            x.undo();
            Due.due("P15 as ahead of " + which, state(x).equals(ahead) ? 1 : 0, 1);
            Due.due("P15 done again " + which, act(x, which), answer);
            Due.due("P15 as behind " + which, state(x).equals(behind) ? 1 : 0, 1);
            if (which == 3) {
                x.keep();
            }
        }
    }

    private static void everyActIsRecorded() {
        GuardedPool x = new GuardedPool();
        Due.due("P2 act", x.ask(0, 1) + x.undo(), 0);
        Due.due("P9 act", x.pass(1) + x.undo(), 0);
        Due.due("P8 act", x.setPatience(1) + x.undo(), 50);
        Due.due("P7 act", x.setLimit(0, 1) + x.undo(), 32);
        Due.due("P6 act", x.live(0, false) + x.undo(), 0);
        Due.due("P13 act", Due.perform(x, "s") + x.undo(), 1);
        x.ask(0, 1);
        x.write(0, 0, 0, 1);
        Due.due("P4 act", x.undo(), 1);
        x.giveBack(0, 0);
        Due.due("P3 act", x.undo(), 1);
        x.pass(50);
        x.touch(0);
        Due.due("P5 act", x.undo(), 2);
        x.sweep();
        Due.due("P10 act", x.undo(), 2);
        x.keep();
        Due.due("P16 is no act", x.count(10), 2);
        x.restore();
        Due.due("P17 act", x.count(10), 3);
        Due.due("P17 undone", x.undo(), 2);
    }

    private static void keepTells() {
        GuardedPool x = new GuardedPool();
        Due.due("P16 nothing owned", x.keep(), 0);
        x.ask(0, 1);
        x.ask(1, 14);
        Due.due("P16 two owned", x.keep(), 2);
        x.ask(1, 1);
        Due.due("P16 the later snapshot", x.restore(), 2);
        Due.due("P16 of two", x.count(0), 2);
    }

    private static void restoreTells() {
        GuardedPool x = new GuardedPool();
        Due.due("P17 no snapshot", x.restore(), GuardedPool.NONE);
        Due.due("P17 none is not recorded", x.count(10), 0);
        x.ask(0, 1);
        x.keep();
        x.ask(0, 1);
        x.ask(0, 1);
        Due.due("P17 one owned", x.restore(), 1);
        Due.due("P17 the number", x.ask(2, 1), 1);
        Due.due("P17 it stays", x.restore(), 1);
        Due.due("P17 and stays", x.restore(), 1);
        Due.due("P17 undo", x.undo(), 3);
        x.undo();
        Due.due("P17 ahead of it", x.block(1, 2), 2);
        x.undo();
        x.undo();
        Due.due("P17 three owned", x.count(0), 3);
        Due.due("P17 the snapshot is no part of a state", x.restore(), 1);
    }

    private static void restoreBringsBackAll() {
        GuardedPool x = new GuardedPool();
        x.ask(0, 2);
        x.write(0, 0, 2, 5);
        x.pass(3);
        x.keep();
        Due.perform(x, "f0:0,a1:14,t9,e3");
        x.setLimit(4, 4);
        x.setPatience(4);
        x.restore();
        Due.due("P17 block", x.block(0, 4), 1);
        Due.due("P17 use", x.block(0, 5), 3);
        Due.due("P17 other block", x.block(1, 0), GuardedPool.UNKNOWN);
        Due.due("P17 clock", x.count(4), 3);
        Due.due("P17 alive", x.task(3, 0), 1);
        Due.due("P17 limit", x.task(4, 4), 32);
        Due.due("P17 patience", x.count(9), 50);
        Due.due("P17 found", x.count(7), 0);
        Due.due("P17 joins", x.count(6), 0);
        Due.due("P17 broke", x.task(0, 6), 1);
        x.write(0, 0, 0, 77);
        x.restore();
        Due.due("P17 the snapshot was not written to", x.word(1, 0), 0);
    }

    private static void whatIsNoState() {
        GuardedPool x = new GuardedPool();
        x.keep();
        x.live(0, false);
        x.ask(0, 1);
        x.ask(0, 1);
        Due.put(x, "a1:1,f0:9");
        x.perform();
        x.undo();
        x.restore();
        Due.due("P24 stays", x.refused(1), 2);
        Due.due("P14 stays", x.stopped(0), 1);
        Due.due("P26 the text stays", x.count(11), 9);
        Due.due("P26 the history stays", x.count(10), 1);
    }
}
