/** Promises 11 to 14: type, clearText, perform, stopped. */
public final class TextsTest {
    private TextsTest() {
    }

    public static void main(String[] args) {
        typeTells();
        clearTextTells();
        faults();
        noFaults();
        fullTexts();
        performDoes();
        performIsOneAct();
        performStops();
        performStopErrors();
        stoppedTells();
        Due.end("TextsTest");
    }

    private static void typeTells() {
        GuardedPool x = new GuardedPool();
        char[] odd = {(char) 0, (char) 65535, (char) 255, (char) 256, ' ', '\n'};
        for (int i = 0; i < odd.length; i++) {
            Due.due("P11 any character", x.type(odd[i]), i + 1);
        }
        for (int i = odd.length; i < 60; i++) {
            Due.due("P11 length", x.type('s'), i + 1);
        }
        Due.due("P11 full", x.type('s'), GuardedPool.FULL);
        Due.due("P11 length told", x.count(11), 60);
        Due.due("P11 is no act", x.count(10), 0);
    }

    private static void clearTextTells() {
        GuardedPool x = new GuardedPool();
        Due.due("P12 empty", x.clearText(), 0);
        Due.put(x, "a0:1");
        Due.due("P12 length", x.clearText(), 4);
        Due.due("P12 empty then", x.count(11), 0);
        Due.due("P12 no text", x.perform(), -100);
        Due.due("P12 is no act", x.count(10), 0);
    }

    private static void fault(String text, int place) {
        GuardedPool x = new GuardedPool();
        Due.due("P13 " + text, Due.perform(x, text), -100 - place);
        Due.due("P13 nothing recorded", x.count(10), 0);
        Due.due("P13 nothing granted", x.count(8), 0);
        Due.due("P13 a fault is no stop", x.stopped(0), GuardedPool.NONE);
        Due.due("P13 the text stays", x.count(11), text.length());
    }

    private static void faults() {
        String[] texts = {"", "b", "A", "0", ",", ":", " s", "a", "a6", "a-", "a:", "a0", "a00", "a05:1", "a5",
            "a0,", "a0:", "a0:0", "a0:01", "a0:15", "a0:20", "a0:100", "a0:1,", "a0:1,,", "a0:1 ", "a0:1:",
            "a0:1a", "a0:14,", "f", "f6", "f0", "f0:", "f0:a", "f0:00", "f0:01", "f0:300", "f0:299,", "f0:2990",
            "f0:301", "f0:999", "f0:99a", "t", "t0", "ta", "t501", "t510", "t600", "t1000", "t500,", "t5000", "t12:",
            "e", "e6", "e0:", "e00", "e10", "e5,", "s,", "ss", "s0", "s,x", "s,a0:15,q", "\u0000", "s\u0000",
            "s,\u0000", "a\u0130", "a0\u0000", "a0:1\u0000", "t5\u0000", "s;s", "a0:/", "t/", "f0:;", "s,,s"};
        int[] places = {0, 0, 0, 0, 0, 0, 0, 1, 1, 1, 1, 2, 2, 2, 2,
            2, 3, 3, 3, 4, 4, 5, 5, 5, 4, 4,
            4, 6, 1, 1, 2, 3, 3, 4, 4, 5, 7, 6,
            5, 5, 5, 1, 1, 1, 3, 3, 3, 4, 5, 4, 3,
            1, 1, 2, 2, 2, 3, 2, 1, 1, 2, 6, 0, 1,
            2, 1, 2, 4, 2, 1, 3, 1, 3, 2};
        Due.due("P13 as many places as texts", places.length, texts.length);
        for (int i = 0; i < texts.length && i < places.length; i++) {
            fault(texts[i], places[i]);
        }
    }

    private static void noFaults() {
        String[] texts = {"a0:1", "a5:14", "a0:10", "a3:9", "t1", "t500", "t499", "t99", "t100", "e0", "e5", "s", "s,s"};
        for (String text : texts) {
            int commands = text.equals("s,s") ? 2 : 1;
            Due.due("P13 " + text, Due.perform(new GuardedPool(), text), commands);
        }
        String[] unowned = {"f0:0", "f5:299", "f0:10", "f0:99", "f0:100", "f0:290"};
        for (String text : unowned) {
            GuardedPool x = new GuardedPool();
            Due.due("P13 " + text, Due.perform(x, text), GuardedPool.NOT_POSSIBLE);
            Due.due("P14 " + text, x.stopped(1), GuardedPool.UNKNOWN);
        }
    }

    private static void fullTexts() {
        StringBuilder sweeps = new StringBuilder("s");
        for (int i = 1; i < 30; i++) {
            sweeps.append(",s");
        }
        GuardedPool x = new GuardedPool();
        Due.due("P13 thirty commands", Due.perform(x, sweeps.toString()), 30);
        Due.due("P26 59 characters", x.count(11), 59);
        x.type(',');
        Due.due("P13 ends too early at 60", x.perform(), -160);
        Due.due("P11 full", x.type('s'), GuardedPool.FULL);
        Due.due("P13 fault at the last", Due.perform(x, sweeps + "x"), -159);
        Due.due("P13 60 characters", Due.perform(x, sweeps.substring(0, 55) + ",t500"), 29);
        Due.due("P26 the clock", x.count(4), 500);
        Due.due("P13 60 that end too early", Due.perform(x, sweeps.substring(0, 55) + ",f0:2"), GuardedPool.NOT_POSSIBLE);
        Due.due("P13 60 without a number", Due.perform(x, sweeps.substring(0, 56) + "s,f0:"), -160);
    }

    private static void performDoes() {
        GuardedPool x = new GuardedPool();
        Due.due("P13 all kinds", Due.perform(x, "a0:5,a0:2,t60,s,e0,a1:1,a2:14,f1:2"), 8);
        Due.due("P13 granted", x.count(8), 4);
        Due.due("P13 owned", x.count(0), 1);
        Due.due("P13 the last stays", x.block(3, 2), 2);
        Due.due("P13 clock", x.count(4), 60);
        Due.due("P13 ended", x.task(0, 0), 0);
        Due.due("P13 again", x.perform(), GuardedPool.NOT_POSSIBLE);
        Due.due("P14 where", x.stopped(0), 0);
        Due.due("P14 why", x.stopped(1), GuardedPool.REFUSED);
        Due.due("P24 not counted", x.refused(1), 0);
    }

    private static void performIsOneAct() {
        GuardedPool x = new GuardedPool();
        Due.perform(x, "a0:1,a0:1,a0:1,a0:1,a0:1,t5");
        Due.due("P13 one record", x.count(10), 1);
        Due.due("P15 undone at once", x.undo(), 0);
        Due.due("P15 nothing owned", x.count(0), 0);
        Due.due("P15 no time passed", x.count(4), 0);
        Due.due("P13 the text stays", x.count(11), 27);
        Due.due("P13 that does nothing", Due.perform(x, "s"), 1);
        Due.due("P13 is recorded", x.count(10), 1);
        x.live(4, false);
        Due.due("P13 ended already", Due.perform(x, "e4,e4"), 2);
    }

    private static void performStops() {
        GuardedPool x = new GuardedPool();
        x.ask(0, 2);
        x.write(0, 0, 0, 44);
        Due.due("P13 stopped", Due.perform(x, "a1:1,t7,e2,f0:0,f1:0"), GuardedPool.NOT_POSSIBLE);
        Due.due("P14 where", x.stopped(0), 4);
        Due.due("P14 why", x.stopped(1), GuardedPool.UNKNOWN);
        Due.due("P13 granted", x.count(8), 1);
        Due.due("P13 clock", x.count(4), 0);
        Due.due("P13 alive", x.task(2, 0), 1);
        Due.due("P13 owned", x.block(0, 2), 0);
        Due.due("P13 value", x.word(1, 0), 44);
        Due.due("P13 splits", x.count(5), 2);
        Due.due("P13 joins", x.count(6), 0);
        Due.due("P13 not recorded", x.count(10), 2);
    }

    private static void stop(GuardedPool x, String text, int command, int error) {
        Due.due("P13 " + text, Due.perform(x, text), GuardedPool.NOT_POSSIBLE);
        Due.due("P14 where " + text, x.stopped(0), command);
        Due.due("P14 why " + text, x.stopped(1), error);
    }

    private static void performStopErrors() {
        GuardedPool x = new GuardedPool();
        x.ask(0, 2);
        stop(x, "f1:0", 0, GuardedPool.NOT_POSSIBLE);
        stop(x, "s,f1:0", 1, GuardedPool.NOT_POSSIBLE);
        stop(x, "t1,s,f0:1", 2, GuardedPool.UNKNOWN);
        stop(x, "f0:0,f0:0", 1, GuardedPool.UNKNOWN);
        stop(x, "e0,a0:1", 1, GuardedPool.REFUSED);
        stop(x, "a1:14,a1:14,a1:1", 2, GuardedPool.REFUSED);
        for (int i = 0; i < 19; i++) {
            x.pass(500);
        }
        x.giveBack(0, 0);
        stop(x, "t499,t1", 1, GuardedPool.FULL);
        Due.due("P9 clock", x.count(4), 9500);
        for (int i = 1; i < 299; i++) {
            x.ask(0, 1);
            x.giveBack(0, i);
        }
        stop(x, "a0:1,a0:1", 1, GuardedPool.FULL);
        stop(x, "e0,a0:1,s,a0:1", 1, GuardedPool.REFUSED);
        Due.due("P13 the last number", Due.perform(x, "a0:1,f0:299"), 2);
        stop(x, "e0,a0:1", 1, GuardedPool.FULL);
        for (int reason = 1; reason <= 3; reason++) {
            Due.due("P24 commands are not counted", x.refused(reason), 0);
        }
    }

    private static void stoppedTells() {
        GuardedPool x = new GuardedPool();
        Due.due("P14 -1", x.stopped(-1), GuardedPool.BAD_VALUE);
        Due.due("P14 2", x.stopped(2), GuardedPool.BAD_VALUE);
        Due.due("P14 none yet", x.stopped(1), GuardedPool.NONE);
        x.keep();
        stop(x, "s,f0:7", 1, GuardedPool.UNKNOWN);
        Due.perform(x, "t1");
        Due.perform(x, "x");
        Due.due("P14 the latest stop stays", x.stopped(0), 1);
        x.undo();
        x.restore();
        x.clearText();
        Due.due("P14 undo does not change it", x.stopped(0), 1);
        Due.due("P14 nor its error", x.stopped(1), GuardedPool.UNKNOWN);
        Due.due("P14 far", x.stopped(Integer.MAX_VALUE), GuardedPool.BAD_VALUE);
    }
}
