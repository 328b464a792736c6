import java.util.ArrayDeque;
import java.util.ArrayList;
import java.util.Comparator;
import java.util.Deque;
import java.util.List;
import java.util.regex.Matcher;
import java.util.regex.Pattern;

/**
 * The same pool, written in another way, for ModelTest: it keeps only the owned blocks and works the cut
 * out of them, and it finds faults of texts by a regular expression.
 */
final class Model {
    private static final String COMMAND = "(?:a[0-5]:(?:1[0-4]?|[2-9])"
        + "|f[0-5]:(?:0|[12](?:[0-9][0-9]?)?|[3-9][0-9]?)"
        + "|t(?:[1-4](?:[0-9][0-9]?)?|5(?:00?|[1-9])?|[6-9][0-9]?)"
        + "|e[0-5]|s)";
    private static final Pattern TEXT = Pattern.compile(COMMAND + "(?:," + COMMAND + ")*");

    private record Own(int number, int begin, int words, int task, int asked, int used) {
        Own usedAt(int time) {
            return new Own(number, begin, words, task, asked, time);
        }

        boolean has(int word) {
            return word >= begin && word < begin + words;
        }

        boolean guards(int word) {
            return word == begin || word == begin + asked + 1;
        }
    }

    private record Piece(int begin, int words, Own own) {
    }

    private static final class World {
        List<Own> owned = new ArrayList<>();
        int[] values = new int[64];
        boolean[] ended = new boolean[6];
        int[] limits = {32, 32, 32, 32, 32, 32};
        int[] broke = new int[6];
        int clock;
        int patience = 50;
        int granted;
        int splits;
        int joins;
        int found;

        World copy() {
            World other = new World();
            other.owned = new ArrayList<>(owned);
            other.values = values.clone();
            other.ended = ended.clone();
            other.limits = limits.clone();
            other.broke = broke.clone();
            other.clock = clock;
            other.patience = patience;
            other.granted = granted;
            other.splits = splits;
            other.joins = joins;
            other.found = found;
            return other;
        }

        List<Piece> cut() {
            List<Piece> pieces = new ArrayList<>();
            for (int begin = 0; begin < 64; begin += 16) {
                cut(begin, 16, pieces);
            }
            return pieces;
        }

        private void cut(int begin, int words, List<Piece> pieces) {
            boolean touched = false;
            for (Own own : owned) {
                if (own.begin == begin && own.words == words) {
                    pieces.add(new Piece(begin, words, own));
                    return;
                }
                touched |= own.begin >= begin && own.begin < begin + words;
            }
            if (touched) {
                cut(begin, words / 2, pieces);
                cut(begin + words / 2, words / 2, pieces);
            } else {
                pieces.add(new Piece(begin, words, null));
            }
        }

        Own own(int number) {
            return owned.stream().filter(own -> own.number == number).findFirst().orElse(null);
        }

        boolean leaks(Own own) {
            return ended[own.task] || clock - own.used >= patience;
        }

        int leaks() {
            return (int) owned.stream().filter(this::leaks).count();
        }

        int broken(Own own) {
            int broken = 0;
            for (int word = own.begin; word < own.begin + own.words; word++) {
                if (own.guards(word) && values[word] != 0) {
                    broken++;
                }
            }
            return broken;
        }

        /** The place for so many words (guards and all), or -1. */
        int place(int words) {
            for (int size = words; size <= 16; size *= 2) {
                for (Piece piece : cut()) {
                    if (piece.own == null && piece.words == size) {
                        return piece.begin;
                    }
                }
            }
            return -1;
        }

        int drop(Own own) {
            int broken = broken(own);
            int pieces = cut().size();
            owned.remove(own);
            joins += pieces - cut().size();
            found += broken;
            for (int word = own.begin; word < own.begin + own.words; word++) {
                values[word] = 0;
            }
            return broken;
        }
    }

    private World world = new World();
    private final Deque<World> history = new ArrayDeque<>();
    private World snapshot;
    private String text = "";
    private final int[] refusals = new int[4];
    private int[] stop;

    private static boolean noTask(int task) {
        return task < 0 || task > 5;
    }

    private int act(World old, int answer) {
        if (answer >= 0) {
            history.addLast(old);
            if (history.size() > 4) {
                history.removeFirst();
            }
        }
        return answer;
    }

    int ask(int task, int words) {
        int answer = act(world.copy(), doAsk(task, words));
        if (answer == -6) {
            refusals[reason(task, words)]++;
        }
        return answer;
    }

    private int doAsk(int task, int words) {
        if (noTask(task)) {
            return -1;
        }
        if (words < 1 || words > 14) {
            return -2;
        }
        if (world.granted == 300) {
            return -3;
        }
        if (reason(task, words) != 0) {
            return -6;
        }
        int pieces = world.cut().size();
        int size = blockWords(words);
        world.owned.add(new Own(world.granted, world.place(size), size, task, words, world.clock));
        world.splits += world.cut().size() - pieces;
        return world.granted++;
    }

    private static int blockWords(int words) {
        return words <= 2 ? 4 : words <= 6 ? 8 : 16;
    }

    int giveBack(int task, int block) {
        return act(world.copy(), doGiveBack(task, block));
    }

    private int doGiveBack(int task, int block) {
        Own own = world.own(block);
        if (noTask(task) || own == null) {
            return -1;
        }
        return own.task == task ? world.drop(own) : -4;
    }

    int write(int task, int block, int index, int value) {
        return act(world.copy(), doWrite(task, block, index, value));
    }

    private int doWrite(int task, int block, int index, int value) {
        Own own = world.own(block);
        if (noTask(task) || own == null) {
            return -1;
        }
        if (Math.abs((long) index) > 64 || value < 1 || value > 99) {
            return -2;
        }
        int word = own.begin + index + 1;
        if (own.task != task || world.ended[task] || word < 0 || word > 63) {
            return -4;
        }
        world.owned.set(world.owned.indexOf(own), own.usedAt(world.clock));
        Own hit = world.owned.stream().filter(other -> other.has(word)).findFirst().orElse(null);
        if (hit == null) {
            return 3;
        }
        int old = world.values[word];
        world.values[word] = value;
        if (hit.guards(word)) {
            world.broke[task] += old == 0 ? 1 : 0;
            return 2;
        }
        if (hit.number != block) {
            return 1;
        }
        return index >= 0 && index < own.asked ? 0 : 4;
    }

    int touch(int block) {
        World old = world.copy();
        Own own = world.own(block);
        if (own == null) {
            return -1;
        }
        int age = world.clock - own.used;
        if (age == 0) {
            return -5;
        }
        world.owned.set(world.owned.indexOf(own), own.usedAt(world.clock));
        return act(old, age);
    }

    int live(int task, boolean alive) {
        return act(world.copy(), doLive(task, alive));
    }

    private int doLive(int task, boolean alive) {
        if (noTask(task)) {
            return -1;
        }
        if (world.ended[task] != alive) {
            return -5;
        }
        world.ended[task] = !alive;
        return task(task, 1);
    }

    int setLimit(int task, int words) {
        if (noTask(task)) {
            return -1;
        }
        if (words < 0 || words > 64) {
            return -2;
        }
        World old = world.copy();
        world.limits[task] = words;
        return old.limits[task] == words ? -5 : act(old, old.limits[task]);
    }

    int setPatience(int ticks) {
        if (ticks < 1 || ticks > 500) {
            return -2;
        }
        World old = world.copy();
        world.patience = ticks;
        return old.patience == ticks ? -5 : act(old, old.patience);
    }

    int pass(int ticks) {
        return act(world.copy(), doPass(ticks));
    }

    private int doPass(int ticks) {
        if (ticks < 1 || ticks > 500) {
            return -2;
        }
        if (world.clock + ticks > 9999) {
            return -3;
        }
        int leaks = world.leaks();
        world.clock += ticks;
        return world.leaks() - leaks;
    }

    int sweep() {
        return act(world.copy(), doSweep());
    }

    private int doSweep() {
        List<Own> leaks = world.owned.stream().filter(world::leaks).toList();
        leaks.forEach(world::drop);
        return leaks.isEmpty() ? -5 : leaks.size();
    }

    int type(char character) {
        if (text.length() == 60) {
            return -3;
        }
        text += character;
        return text.length();
    }

    int clearText() {
        int length = text.length();
        text = "";
        return length;
    }

    /** The fault of a text, or -1: the first character behind which no text can go on. */
    static int fault(String text) {
        for (int end = 1; end <= text.length(); end++) {
            Matcher matcher = TEXT.matcher(text.substring(0, end));
            if (!matcher.matches() && !matcher.hitEnd()) {
                return end - 1;
            }
        }
        return TEXT.matcher(text).matches() ? -1 : text.length();
    }

    int perform() {
        int fault = fault(text);
        if (fault >= 0) {
            return -100 - fault;
        }
        World old = world.copy();
        String[] commands = text.split(",");
        for (int i = 0; i < commands.length; i++) {
            int answer = command(commands[i]);
            if (answer < 0 && answer != -5) {
                stop = new int[] {i, answer};
                world = old;
                return -4;
            }
        }
        return act(old, commands.length);
    }

    private int command(String command) {
        String[] numbers = command.substring(1).split(":");
        return switch (command.charAt(0)) {
            case 'a' -> doAsk(Integer.parseInt(numbers[0]), Integer.parseInt(numbers[1]));
            case 'f' -> doGiveBack(Integer.parseInt(numbers[0]), Integer.parseInt(numbers[1]));
            case 't' -> doPass(Integer.parseInt(numbers[0]));
            case 'e' -> doLive(Integer.parseInt(numbers[0]), false);
            default -> doSweep();
        };
    }

    int stopped(int what) {
        if (what != 0 && what != 1) {
            return -2;
        }
        return stop == null ? -5 : stop[what];
    }

    int undo() {
        if (history.isEmpty()) {
            return -5;
        }
        world = history.removeLast();
        return history.size();
    }

    int keep() {
        snapshot = world.copy();
        return world.owned.size();
    }

    int restore() {
        if (snapshot == null) {
            return -5;
        }
        World old = world;
        world = snapshot.copy();
        return act(old, world.owned.size());
    }

    int block(int block, int what) {
        Own own = world.own(block);
        if (own == null) {
            return -1;
        }
        return pick(what, own.begin, sizeOf(own.words), own.task, own.asked, world.broken(own),
            world.clock - own.used, world.leaks(own) ? 1 : 0);
    }

    private static int pick(int what, int... answers) {
        return what < 0 || what >= answers.length ? -2 : answers[what];
    }

    private static int sizeOf(int words) {
        return words == 4 ? 0 : words == 8 ? 1 : 2;
    }

    int word(int word, int what) {
        if (word < 0 || word > 63) {
            return -1;
        }
        for (Piece piece : world.cut()) {
            if (word >= piece.begin && word < piece.begin + piece.words) {
                Own own = piece.own;
                return pick(what, world.values[word], own == null ? -5 : own.number,
                    own != null && own.guards(word) ? 1 : 0, sizeOf(piece.words));
            }
        }
        return Integer.MIN_VALUE;
    }

    int task(int task, int what) {
        if (noTask(task)) {
            return -1;
        }
        List<Own> its = world.owned.stream().filter(own -> own.task == task).toList();
        return pick(what, world.ended[task] ? 0 : 1, its.size(), its.stream().mapToInt(Own::words).sum(),
            its.stream().mapToInt(Own::asked).sum(), world.limits[task],
            (int) its.stream().filter(world::leaks).count(), world.broke[task]);
    }

    int reason(int task, int words) {
        if (noTask(task)) {
            return -1;
        }
        if (words < 1 || words > 14) {
            return -2;
        }
        if (world.ended[task]) {
            return 1;
        }
        if (task(task, 2) + blockWords(words) > world.limits[task]) {
            return 2;
        }
        return world.place(blockWords(words)) < 0 ? 3 : 0;
    }

    int greatest(int task) {
        if (noTask(task)) {
            return -1;
        }
        int greatest = -5;
        for (int words = 1; words <= 14; words++) {
            greatest = reason(task, words) == 0 ? words : greatest;
        }
        return greatest;
    }

    int leak(int rank) {
        if (rank < 0) {
            return -2;
        }
        List<Own> leaks = world.owned.stream().filter(world::leaks)
            .sorted(Comparator.comparingInt(Own::used).thenComparingInt(Own::number)).toList();
        return rank >= leaks.size() ? -5 : leaks.get(rank).number;
    }

    int refused(int reason) {
        return reason < 1 || reason > 3 ? -2 : refusals[reason];
    }

    int size(int size, int what) {
        if (size < 0 || size > 2) {
            return -1;
        }
        List<Piece> pieces = world.cut().stream().filter(piece -> sizeOf(piece.words) == size).toList();
        List<Piece> free = pieces.stream().filter(piece -> piece.own == null).toList();
        return pick(what, free.size(), pieces.size() - free.size(), free.isEmpty() ? -5 : free.get(0).begin);
    }

    int count(int what) {
        int words = world.owned.stream().mapToInt(Own::words).sum();
        int asked = world.owned.stream().mapToInt(Own::asked).sum();
        return pick(what, world.owned.size(), 64 - words, words - asked, world.leaks(), world.clock, world.splits,
            world.joins, world.found, world.granted, world.patience, history.size(), text.length());
    }
}
