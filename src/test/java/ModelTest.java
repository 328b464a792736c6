/** Long runs of calls on the class and on Model: each answer must be the same (promises 1 to 26). */
public final class ModelTest {
    private static final int RUNS = 1500;
    private static final int CALLS = 512;
    private static final int MOST_WRONG = 10;

    private final GuardedPool pool = new GuardedPool();
    private final Model model = new Model();
    private final int run;
    /** How a run leans: 0 many small blocks, 1 any, 2 much time, 3 many texts, 4 many granted. */
    private final int kind;
    private long seed;
    private int calls;

    private ModelTest(int run) {
        this.run = run;
        this.kind = run % 5;
        this.seed = run * 7919L + 17;
    }

    public static void main(String[] args) {
        for (int run = 0; run < RUNS && Due.wrongSoFar() < MOST_WRONG; run++) {
            new ModelTest(run).play();
        }
        everyShortText();
        Due.end("ModelTest");
    }

    /** A row of numbers that is the same each time. */
    private int next(int bound) {
        seed = seed * 6364136223846793005L + 1442695040888963407L;
        return (int) ((seed >>> 33) % bound);
    }

    private void due(String call, int got, int want) {
        calls++;
        Due.due("run " + run + ", call " + calls + ": " + call, got, want);
    }

    private void play() {
        if (next(2) == 0) {
            for (int task = 0; task < 6; task++) {
                limit(task, 64);
            }
        }
        while (calls < CALLS) {
            if (next(100) < 45) {
                tell();
            } else {
                change();
            }
        }
        tellAll();
    }

    private void change() {
        int dice = next(100);
        if (kind == 3 && dice < 60) {
            text();
        } else if (kind == 4 && dice < 60) {
            if (dice < 15 || model.count(0) > 12) {
                giveBack();
            } else {
                ask();
            }
        } else if (dice < 25) {
            ask();
        } else if (dice < 40) {
            giveBack();
        } else if (dice < 62) {
            write();
        } else if (dice < 68) {
            int block = someBlock();
            due("touch(" + block + ")", pool.touch(block), model.touch(block));
        } else if (dice < 73) {
            int task = someTask();
            boolean alive = next(5) > 1;
            due("live(" + task + ", " + alive + ")", pool.live(task, alive), model.live(task, alive));
        } else if (dice < 76) {
            limit(someTask(), next(12) == 0 ? next(80) - 8 : 8 * next(9));
        } else if (dice < 88) {
            time();
        } else if (dice < 94) {
            history();
        } else {
            text();
        }
    }

    private void ask() {
        int task = someTask();
        int words = next(30) == 0 ? odd() : kind == 0 || kind == 4 ? 1 + next(4) : 1 + next(14);
        due("ask(" + task + ", " + words + ")", pool.ask(task, words), model.ask(task, words));
    }

    private void giveBack() {
        int block = someBlock();
        int owner = model.block(block, 2);
        int task = next(6) == 0 || owner < 0 ? someTask() : owner;
        due("giveBack(" + task + ", " + block + ")", pool.giveBack(task, block), model.giveBack(task, block));
    }

    private void write() {
        int block = someBlock();
        int owner = model.block(block, 2);
        int task = next(8) == 0 || owner < 0 ? someTask() : owner;
        int index = next(3) == 0 ? next(132) - 66 : next(3) == 0 ? model.block(block, 3) : next(22) - 4;
        int value = next(30) == 0 ? next(110) - 5 : 1 + next(99);
        String call = "write(" + task + ", " + block + ", " + index + ", " + value + ")";
        due(call, pool.write(task, block, index, value), model.write(task, block, index, value));
    }

    private void limit(int task, int words) {
        due("setLimit(" + task + ", " + words + ")", pool.setLimit(task, words), model.setLimit(task, words));
    }

    private void time() {
        int dice = next(10);
        if (dice < 2) {
            int ticks = next(8) == 0 ? next(1000) - 250 : 1 + next(60);
            due("setPatience(" + ticks + ")", pool.setPatience(ticks), model.setPatience(ticks));
        } else if (dice < 8) {
            int ticks = next(20) == 0 ? odd() : kind == 2 ? 300 + next(202) : 1 + next(30);
            due("pass(" + ticks + ")", pool.pass(ticks), model.pass(ticks));
        } else {
            due("sweep()", pool.sweep(), model.sweep());
        }
    }

    private void history() {
        int dice = next(10);
        if (dice < 5) {
            due("undo()", pool.undo(), model.undo());
        } else if (dice < 7) {
            due("keep()", pool.keep(), model.keep());
        } else {
            due("restore()", pool.restore(), model.restore());
        }
    }

    private void text() {
        due("clearText()", pool.clearText(), model.clearText());
        String typed = someText();
        for (int i = 0; i < typed.length(); i++) {
            char sign = typed.charAt(i);
            due("type(" + (int) sign + ")", pool.type(sign), model.type(sign));
        }
        due("perform() of " + typed, pool.perform(), model.perform());
        if (next(4) == 0) {
            due("perform() again", pool.perform(), model.perform());
        }
    }

    private String someText() {
        StringBuilder typed = new StringBuilder();
        int commands = kind == 4 ? 12 : 1 + next(5);
        for (int i = 0; i < commands; i++) {
            typed.append(i == 0 ? "" : ",");
            switch (next(kind == 4 ? 2 : 7)) {
                case 0, 1, 2 -> typed.append('a').append(next(6)).append(':').append(1 + next(kind == 4 ? 4 : 14));
                case 3, 4 -> {
                    int block = Math.max(0, someBlock());
                    int owner = model.block(block, 2);
                    typed.append('f').append(owner < 0 ? next(6) : owner).append(':').append(block);
                }
                case 5 -> typed.append('t').append(1 + next(next(3) == 0 ? 500 : 40));
                default -> typed.append(next(3) == 0 ? "e" + next(6) : "s");
            }
        }
        if (next(6) == 0) {
            typed.setCharAt(next(typed.length()), "0123456789:,aftes x".charAt(next(19)));
        }
        if (next(12) == 0) {
            typed.insert(next(typed.length() + 1), "0123456789:,aftes x".charAt(next(19)));
        }
        if (next(20) == 0) {
            typed.setLength(next(typed.length() + 1));
        }
        return typed.toString();
    }

    private void tell() {
        int first = next(10) == 0 ? odd() : next(7);
        int what = next(12) - (next(10) == 0 ? 3 : 0);
        switch (next(10)) {
            case 0 -> tellBlock(someBlock(), what % 8);
            case 1 -> tellWord(next(70) - 3, what % 5);
            case 2 -> due("task(" + first + ", " + what + ")", pool.task(first, what), model.task(first, what));
            case 3 -> due("reason(" + first + ", " + (what + 2) + ")", pool.reason(first, what + 2),
                model.reason(first, what + 2));
            case 4 -> due("greatest(" + first + ")", pool.greatest(first), model.greatest(first));
            case 5 -> due("leak(" + first + ")", pool.leak(first), model.leak(first));
            case 6 -> due("refused(" + first + ")", pool.refused(first), model.refused(first));
            case 7 -> due("size(" + first % 4 + ", " + what % 4 + ")", pool.size(first % 4, what % 4),
                model.size(first % 4, what % 4));
            case 8 -> due("count(" + what + ")", pool.count(what), model.count(what));
            default -> due("stopped(" + first % 3 + ")", pool.stopped(first % 3), model.stopped(first % 3));
        }
    }

    private void tellBlock(int block, int what) {
        due("block(" + block + ", " + what + ")", pool.block(block, what), model.block(block, what));
    }

    private void tellWord(int word, int what) {
        due("word(" + word + ", " + what + ")", pool.word(word, what), model.word(word, what));
    }

    private void tellAll() {
        for (int word = -1; word <= 64; word++) {
            for (int what = -1; what <= 4; what++) {
                tellWord(word, what);
            }
        }
        for (int block = -1; block <= 300; block++) {
            for (int what = 0; what <= 7; what++) {
                tellBlock(block, what);
            }
        }
        for (int task = 0; task < 6; task++) {
            for (int what = 0; what <= 6; what++) {
                due("task(" + task + ", " + what + ")", pool.task(task, what), model.task(task, what));
            }
        }
        for (int what = 0; what <= 12; what++) {
            due("count(" + what + ")", pool.count(what), model.count(what));
            due("leak(" + what + ")", pool.leak(what), model.leak(what));
        }
    }

    private int someTask() {
        return next(40) == 0 ? odd() : next(next(3) == 0 ? 6 : 3);
    }

    private int someBlock() {
        int owned = model.count(0);
        if (owned == 0 || next(25) == 0) {
            return next(3) == 0 ? odd() : next(model.count(8) + 2) - 1;
        }
        for (int tries = 0; tries < 200; tries++) {
            int owner = model.word(next(64), 1);
            if (owner >= 0) {
                return owner;
            }
        }
        return 0;
    }

    private int odd() {
        int[] odd = {-1, 0, 6, 15, 64, 65, 300, 501, Integer.MAX_VALUE, Integer.MIN_VALUE, -65, 7};
        return odd[next(odd.length)];
    }

    /** The faults of all texts of up to five signs out of those that matter most. */
    private static void everyShortText() {
        String signs = "ates:,01259f";
        int most = 5;
        for (int length = 0; length <= most; length++) {
            int texts = 1;
            for (int i = 0; i < length; i++) {
                texts *= signs.length();
            }
            for (int i = 0; i < texts && Due.wrongSoFar() < MOST_WRONG; i++) {
                shortText(textOf(i, length, signs));
            }
        }
    }

    private static String textOf(int number, int length, String signs) {
        StringBuilder text = new StringBuilder();
        int rest = number;
        for (int i = 0; i < length; i++) {
            text.append(signs.charAt(rest % signs.length()));
            rest /= signs.length();
        }
        return text.toString();
    }

    private static void shortText(String text) {
        int fault = Model.fault(text);
        GuardedPool pool = new GuardedPool();
        int answer = Due.perform(pool, text);
        int got = answer <= -100 ? -100 - answer : -1;
        Due.due("fault of " + text, got, fault);
    }
}
