/** The sentences on type, clearText, perform and stopped (promises 11 to 14). */
final class TextBounds extends Bounds {
    /** 55 characters, 28 commands that do nothing in a new pool. */
    private static final String SWEEPS = "s,".repeat(27) + "s";

    private TextBounds() {
    }

    private static int performed(String text) {
        return Due.perform(new GuardedPool(), text);
    }

    private static void faults(int place, String... texts) {
        for (String text : texts) {
            due("perform() of " + text, performed(text), -100 - place);
        }
    }

    /** Without fault: done, or stopped by a command that is an error in a new pool. */
    private static void noFaults(int answer, String... texts) {
        for (String text : texts) {
            due("perform() of " + text, performed(text), answer);
        }
    }

    private static void stop(GuardedPool x, String text, int command, int error) {
        due("perform() of " + text, Due.perform(x, text), NOT_POSSIBLE);
        due("stopped(0) by " + text, x.stopped(0), command);
        due("stopped(1) by " + text, x.stopped(1), error);
    }

    // ---- promises 11 and 12

    static void p11AnyCharacter() {
        says(11, "`character`: any character");
        char[] odd = {(char) 0, (char) 65535, (char) 255, (char) 256, ' ', '\n', 'a', ','};
        GuardedPool x = new GuardedPool();
        for (int i = 0; i < odd.length; i++) {
            due("type((char) " + (int) odd[i] + ")", x.type(odd[i]), i + 1);
        }
    }

    static void p11BehindTheText() {
        says(11, "Types a character behind the text");
        GuardedPool x = new GuardedPool();
        x.type('t');
        x.type('1');
        x.type('2');
        x.perform();
        due("the clock", x.count(4), 12);
        x.type('3');
        x.perform();
        due("the clock then", x.count(4), 135);
    }

    static void p11LengthThen() {
        says(11, "Returns the length of the text then");
        GuardedPool x = new GuardedPool();
        for (int i = 1; i <= 60; i++) {
            due("character " + i, x.type('x'), i);
        }
    }

    static void p11FullAt60() {
        says(11, "FULL if it has 60 characters");
        GuardedPool x = new GuardedPool();
        Due.put(x, "x".repeat(59));
        due("at 59", x.type('x'), 60);
        due("at 60", x.type('x'), FULL);
        due("length", x.count(11), 60);
        x.clearText();
        due("cleared", x.type('x'), 1);
    }

    static void p11AtMost60Characters() {
        says(11, "There is a text of at most 60 characters");
        GuardedPool x = new GuardedPool();
        Due.put(x, SWEEPS + ",t500");
        due("length", x.count(11), 60);
        due("one more", x.type('1'), FULL);
        due("the text is as it was", x.perform(), 29);
        due("clock", x.count(4), 500);
    }

    static void p11IsNoAct() {
        says(11, RECORDS);
        GuardedPool x = after(y -> y.pass(1));
        x.type('s');
        due("states", x.count(10), 1);
        x.undo();
        due("length", x.count(11), 1);
    }

    static void p11FullChangesNothing() {
        says(11, CHANGES_NOTHING);
        changesNothing("FULL", x -> Due.put(x, "x".repeat(60)), x -> x.type('s'), FULL);
    }

    static void p12EmptiesTheText() {
        says(12, "Empties the text");
        GuardedPool x = new GuardedPool();
        Due.put(x, "a0:1");
        x.clearText();
        due("length", x.count(11), 0);
        due("perform()", x.perform(), -100);
        x.type('s');
        due("perform() of what was typed then", x.perform(), 1);
    }

    static void p12LengthThatItHad() {
        says(12, "Returns the length that it had");
        GuardedPool x = new GuardedPool();
        due("none", x.clearText(), 0);
        x.type('x');
        due("one", x.clearText(), 1);
        due("none again", x.clearText(), 0);
        Due.put(x, "x".repeat(60));
        due("sixty", x.clearText(), 60);
    }

    static void p12IsNoAct() {
        says(12, RECORDS);
        GuardedPool x = after(Bounds::busy);
        int states = x.count(10);
        x.clearText();
        due("states", x.count(10), states);
    }

    // ---- promise 13: the text

    static void p13OneOrMoreCommands() {
        says(13, "A text of commands is one or more commands with \",\" between two");
        noFaults(1, "s");
        noFaults(2, "s,s");
        noFaults(5, "s,a0:1,t1,e0,s");
        faults(0, ",", ",s");
        faults(1, "ss", "s;s", "s s", "s:s", "s.");
        faults(2, "s,,s", "s, s");
        faults(4, "a0:1a0:1", "a0:1 ,s", "f0:1f0:1");
        faults(2, "t5t5", "e5e5");
    }

    static void p13RequestCommand() {
        says(13, "\"a\", a task (0 to 5), \":\" and words (1 to 14) (a request)");
        noFaults(1, "a0:1", "a5:1", "a0:14", "a5:9", "a3:10");
        faults(0, "A0:1", "b0:1", "0:1");
        faults(1, "a6:1", "a9:1", "a:1", "a-1:1", "a/:1", "aa0:1", "a 0:1");
        faults(2, "a01", "a0;1", "a0,1", "a0 :1");
        faults(3, "a0:0", "a0::1", "a0:a", "a0:-1", "a0:,", "a0: 1");
        faults(4, "a0:15", "a0:19", "a0:20", "a0:99", "a5:1:");
        faults(5, "a0:140", "a0:100", "a0:14s");
    }

    static void p13RequestIsDone() {
        says(13, "and words (1 to 14) (a request)");
        GuardedPool x = new GuardedPool();
        Due.perform(x, "a5:14,a4:3");
        due("task of the first", x.block(0, 2), 5);
        due("words of the first", x.block(0, 3), 14);
        due("task of the second", x.block(1, 2), 4);
        due("words of the second", x.block(1, 3), 3);
    }

    static void p13GiveBackCommand() {
        says(13, "\"f\", a task, \":\" and a number of a block (0 to 299) (it is given back by the task)");
        noFaults(NOT_POSSIBLE, "f0:0", "f5:0", "f0:9", "f0:10", "f0:99", "f0:100", "f0:199", "f0:299", "f0:290");
        faults(0, "F0:0", "g0:0");
        faults(1, "f6:0", "f:0", "f9:0");
        faults(2, "f00", "f0,0", "f0;0");
        faults(3, "f0::0", "f0:a", "f0:,", "f0:-1");
        faults(5, "f0:300", "f0:309", "f0:310", "f0:999");
        faults(6, "f0:2990", "f0:1000", "f0:299f");
    }

    static void p13GiveBackIsDone() {
        says(13, "a number of a block (0 to 299) (it is given back by the task)");
        GuardedPool x = after(Bounds::busy);
        due("perform()", Due.perform(x, "f0:0,f5:2"), 2);
        due("blocks", x.count(0), 1);
        due("guards that were found broken", x.count(7), 1);
        due("joins", x.count(6), 1);
    }

    static void p13GiveBackOfTheLastNumber() {
        says(13, "a number of a block (0 to 299)");
        GuardedPool x = after(y -> grant(y, 299));
        due("perform()", Due.perform(x, "a3:1,f3:299"), 2);
        due("owned", x.count(0), 0);
        due("granted", x.count(8), 300);
    }

    static void p13TicksCommand() {
        says(13, "\"t\" and ticks (1 to 500)");
        noFaults(1, "t1", "t9", "t10", "t99", "t100", "t499", "t500");
        faults(0, "T1", "5");
        faults(1, "t0", "t-1", "t:1", "ta", "t,", "t 1");
        faults(2, "t1:", "t1a", "t5 ");
        faults(3, "t501", "t510", "t600", "t999", "t59:");
        faults(4, "t1000", "t5000", "t100a", "t4999");
    }

    static void p13TicksAreDone() {
        says(13, "\"t\" and ticks (1 to 500)");
        GuardedPool x = new GuardedPool();
        Due.perform(x, "t500,t1,t42");
        due("clock", x.count(4), 543);
    }

    static void p13EndCommand() {
        says(13, "\"e\" and a task (it ends)");
        noFaults(1, "e0", "e5");
        faults(0, "E0", "6");
        faults(1, "e6", "e9", "e:", "ee", "e,", "e-1");
        faults(2, "e0:", "e5e", "e10", "e50");
        GuardedPool x = new GuardedPool();
        Due.perform(x, "e5,e0");
        for (int task = 0; task < 6; task++) {
            due("alive " + task, x.task(task, 0), task == 0 || task == 5 ? 0 : 1);
        }
    }

    static void p13SweepCommand() {
        says(13, "\"s\" (a sweep)");
        noFaults(1, "s");
        faults(0, "S", "x");
        faults(1, "s0", "s:", "sx");
        GuardedPool x = after(y -> y.ask(0, 1));
        due("perform()", Due.perform(x, "t50,s"), 2);
        due("owned", x.count(0), 0);
    }

    static void p13NoZeroInFront() {
        says(13, "Numbers have no zero in front unless they are the single digit 0");
        faults(2, "a00:1", "a01:1", "a05:14", "f00:0", "f01:0", "e00", "e05");
        faults(3, "a0:01", "a0:00", "a0:010");
        faults(4, "f0:00", "f0:01", "f0:010", "f0:0299");
        faults(1, "t01", "t00", "t0500");
        noFaults(NOT_POSSIBLE, "f0:0");
        noFaults(1, "a0:1", "e0");
    }

    static void p13NoDigitThatMakesItGreater() {
        says(13, "a digit by which a number would be greater than told is not allowed");
        faults(1, "a6:1", "a7:1", "e6", "e8", "f6:0");
        faults(2, "a10:1", "e10", "e55", "f50:0");
        faults(4, "a0:15", "a0:20", "a0:90");
        faults(5, "a0:140", "a0:141", "f0:300", "f0:301", "f0:990");
        faults(6, "f0:2999", "f0:1000");
        faults(3, "t501", "t510", "t509", "t990");
        faults(4, "t5000", "t1000");
    }

    static void p13FaultIsTheFirstNotAllowed() {
        says(13, "The fault of the text is the index, from 0, of the first character that is not allowed at its place");
        faults(0, "xx", "x,a6");
        faults(1, "a6,x", "sxx");
        faults(3, "s,t0,x,y");
        faults(58, "s,".repeat(29) + "xs");
        faults(59, "s,".repeat(29) + "sx", "s,".repeat(29) + "ss");
    }

    static void p13CharactersThatNoCommandHolds() {
        says(13, "the first character that is not allowed at its place");
        faults(0, "\u0000", "\uffff", "\u0161", "\u0173");
        faults(1, "s\u0000", "a\u0130:1", "e\u0000", "t\u0131");
        faults(2, "s,\u0000", "t5\u0000", "e0\u0000", "a0\u013a1");
        faults(4, "a0:1\u0000", "a0:1\u012c");
    }

    static void p13LengthIfItEndsTooEarly() {
        says(13, "or the length of the text if it ends too early");
        faults(1, "a", "f", "t", "e");
        faults(2, "a0", "f0", "s,");
        faults(3, "a0:", "f0:", "e0,", "s,a", "s,t");
        faults(5, "a0:1,", "s,f0:", "t500,");
        faults(59, SWEEPS + ",a0:");
        faults(60, "s,".repeat(30), SWEEPS + ",s,a5", SWEEPS + ",s,s,", "s,".repeat(27) + "t5,a0:");
    }

    static void p13TheEmptyTextDoes() {
        says(13, "(the empty text does)");
        faults(0, "");
    }

    // ---- promise 13: doing

    static void p13TheTextStays() {
        says(13, "Does the commands of the text, which stays, one after the other");
        GuardedPool x = new GuardedPool();
        Due.put(x, "a0:1,t5");
        x.perform();
        due("length", x.count(11), 7);
        due("again", x.perform(), 2);
        due("clock", x.count(4), 10);
        due("owned", x.count(0), 2);
        stop(x, "f0:9", 0, UNKNOWN);
        due("length of what was stopped", x.count(11), 4);
        due("a fault", Due.perform(x, "f0;9"), -102);
        due("length of what had a fault", x.count(11), 4);
    }

    static void p13OneAfterTheOther() {
        says(13, "one after the other");
        GuardedPool x = new GuardedPool();
        stop(x, "f0:0,a0:1", 0, UNKNOWN);
        due("the other way about", Due.perform(x, "a0:1,f0:0"), 2);
        due("owned", x.count(0), 0);
        due("time ahead of the sweep", Due.perform(x, "a0:1,t50,s"), 3);
        due("owned", x.count(0), 0);
        due("behind it", Due.perform(x, "a0:1,s,t50"), 3);
        due("owned", x.count(0), 1);
    }

    static void p13AllOrNone() {
        says(13, "all of them, or none");
        changesNothing("stopped at the last", y -> {
            busy(y);
            Due.put(y, "f0:0,a1:9,t500,e1,s,a2:1,f1:0");
        }, GuardedPool::perform, NOT_POSSIBLE);
        changesNothing("stopped at the first", y -> {
            busy(y);
            Due.put(y, "f1:0,f0:0,t500");
        }, GuardedPool::perform, NOT_POSSIBLE);
    }

    static void p13OneAct() {
        says(13, "This is one act");
        Calls ahead = y -> {
            busy(y);
            Due.put(y, "f0:0,a1:9,t500,e1,s,a2:1,f2:4");
        };
        isOneAct("seven commands", ahead, GuardedPool::perform, 7);
        isOneAct("commands that do nothing", y -> Due.put(y, "s,s"), GuardedPool::perform, 2);
    }

    static void p13AnErrorStopsIt() {
        says(13, "One whose method would return an error stops it");
        GuardedPool x = after(y -> y.ask(0, 1));
        stop(x, "f0:1", 0, UNKNOWN);
        stop(x, "f1:0", 0, NOT_POSSIBLE);
        stop(x, "f0:0,f0:0", 1, UNKNOWN);
        stop(x, "e1,a1:1", 1, REFUSED);
        stop(x, "a1:14,a1:14,a1:1", 2, REFUSED);
        stop(x, "a1:14,a1:14,a2:14,a3:14", 3, REFUSED);
    }

    static void p13FullStopsIt() {
        says(13, "One whose method would return an error stops it");
        GuardedPool x = after(y -> passTo9500And(y, 0));
        stop(x, "t499,t1", 1, FULL);
        due("clock", x.count(4), 9500);
        due("to the end", Due.perform(x, "t499"), 1);
        GuardedPool y = after(z -> grant(z, 298));
        stop(y, "a0:1,a0:1,a0:1", 2, FULL);
        due("granted", y.count(8), 298);
        due("the last two", Due.perform(y, "a0:1,a0:1"), 2);
        stop(y, "e0,a0:1", 1, FULL);
    }

    static void p13NoneDoesNothing() {
        says(13, "one that would return NONE does nothing");
        GuardedPool x = after(y -> y.live(4, false));
        due("a sweep without a leak", Due.perform(x, "s"), 1);
        due("a task that ended", Due.perform(x, "e4"), 1);
        due("among others", Due.perform(x, "e4,s,t1,e4,s"), 5);
        due("clock", x.count(4), 1);
        due("no stop", x.stopped(0), NONE);
    }

    static void p13HowManyCommands() {
        says(13, "Returns how many commands there are");
        for (int more = 0; more < 30; more++) {
            noFaults(more + 1, "s" + ",s".repeat(more));
        }
        noFaults(12, "a0:1" + ",a1:1".repeat(7) + ",a2:1".repeat(4));
    }

    static void p13Minus100MinusTheFault() {
        says(13, "-100 minus the fault of the text if it has one (which is an error)");
        due("0", performed(""), -100);
        due("1", performed("a"), -101);
        due("60", performed("s,".repeat(30)), -160);
        changesNothing("a fault", y -> {
            busy(y);
            Due.put(y, "f0:0,a1:9,x");
        }, GuardedPool::perform, -110);
        changesNothing("no text", y -> {
            busy(y);
            y.clearText();
        }, GuardedPool::perform, -100);
    }

    static void p13NotPossibleIfStopped() {
        says(13, "NOT_POSSIBLE if any is stopped");
        due("the first", performed("f0:0,s"), NOT_POSSIBLE);
        due("the last", performed("s,f0:0"), NOT_POSSIBLE);
        due("of a full text", performed(SWEEPS + ",f0:0"), NOT_POSSIBLE);
    }

    static void p13Order() {
        says(13, ORDER);
        GuardedPool x = new GuardedPool();
        due("a fault behind a stop", Due.perform(x, "f0:0,x"), -105);
        due("is no stop", x.stopped(0), NONE);
    }

    static void p13DoesCommands() {
        says(13, "Does the commands of the text");
        GuardedPool x = new GuardedPool();
        due("all kinds", Due.perform(x, "a0:5,a0:2,t60,s,e0,a1:1,a2:14,f1:2"), 8);
        due("granted", x.count(8), 4);
        due("the last stays", x.block(3, 2), 2);
        due("clock", x.count(4), 60);
        due("ended", x.task(0, 0), 0);
    }

    // ---- promise 14

    static void p14What() {
        says(14, "BAD_VALUE");
        GuardedPool x = new GuardedPool();
        stop(x, "s,f0:0", 1, UNKNOWN);
        int[] beside = {-1, 2, Integer.MIN_VALUE, Integer.MAX_VALUE};
        each("stopped(..)", beside, x::stopped, BAD_VALUE);
    }

    static void p14NumberOfTheCommand() {
        says(14, "`what`: 0 for the number of the command in its text, from 0");
        GuardedPool x = new GuardedPool();
        stop(x, "f0:0", 0, UNKNOWN);
        stop(x, "s,f0:0", 1, UNKNOWN);
        stop(x, SWEEPS + ",f0:0", 28, UNKNOWN);
        stop(x, "f0:0,f0:0,f0:0", 0, UNKNOWN);
    }

    static void p14TheErrorOfTheMethod() {
        says(14, "1 for the error that the method would have returned");
        GuardedPool x = after(y -> y.ask(0, 1));
        stop(x, "f0:7", 0, UNKNOWN);
        stop(x, "f3:0", 0, NOT_POSSIBLE);
        stop(x, "e3,a3:1", 1, REFUSED);
        stop(after(y -> passTo9500And(y, 499)), "t1", 0, FULL);
    }

    static void p14AnErrorAsItIs() {
        says(14, "Returns the number (an error as it is, below 0)");
        GuardedPool x = new GuardedPool();
        Due.perform(x, "t1,t1,f0:0");
        due("the number", x.stopped(0), 2);
        due("the error", x.stopped(1), -1);
    }

    static void p14TheLatestStop() {
        says(14, "Tells of the latest stop of perform()");
        GuardedPool x = after(y -> y.ask(0, 1));
        stop(x, "s,f0:7", 1, UNKNOWN);
        stop(x, "f3:0", 0, NOT_POSSIBLE);
        Due.perform(x, "t1");
        Due.perform(x, "x");
        x.clearText();
        x.giveBack(3, 0);
        due("its number stays", x.stopped(0), 0);
        due("its error stays", x.stopped(1), NOT_POSSIBLE);
    }

    static void p14NoneBeforeAny() {
        says(14, "NONE if none was stopped yet");
        GuardedPool x = new GuardedPool();
        Due.perform(x, "s,a6");
        Due.perform(x, "s");
        x.ask(0, 0);
        due("stopped(0)", x.stopped(0), NONE);
        due("stopped(1)", x.stopped(1), NONE);
    }

    static void p14Order() {
        says(14, ORDER);
        due("BAD_VALUE ahead of NONE", new GuardedPool().stopped(2), BAD_VALUE);
        due("BAD_VALUE ahead of NONE below", new GuardedPool().stopped(-1), BAD_VALUE);
    }

    static void p14TellingChangesNothing() {
        says(14, CHANGES_NOTHING);
        changesNothing("stopped(2)", Bounds::busy, x -> x.stopped(2), BAD_VALUE);
        changesNothing("stopped(0)", Bounds::busy, x -> x.stopped(0), NONE);
    }
}
