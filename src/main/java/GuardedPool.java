/** A pool of guarded blocks for six tasks; ../shared/DOC.md says what it must do. */
public final class GuardedPool {
    public static final int UNKNOWN = -1;
    public static final int BAD_VALUE = -2;
    public static final int FULL = -3;
    public static final int NOT_POSSIBLE = -4;
    public static final int NONE = -5;
    public static final int REFUSED = -6;

    private static final int WORDS = 64;
    private static final int SMALL_WORDS = 4;
    private static final int GREAT_WORDS = 16;
    /** A block begins at a multiple of the small size, so there are so many places for blocks. */
    private static final int PLACES = 16;
    private static final int SIZES = 3;
    private static final int GREAT = 2;
    private static final int NO_SIZE = -1;

    private static final int TASKS = 6;
    private static final int NOBODY = -1;
    private static final int FIRST_LIMIT = 32;

    private static final int MOST_ASKED = 14;
    private static final int GUARDS = 2;
    private static final int MOST_GRANTED = 300;
    private static final int MOST_VALUE = 99;

    private static final int MOST_CLOCK = 9999;
    private static final int MOST_TICKS = 500;
    private static final int FIRST_PATIENCE = 50;

    private static final int TASK_ENDED = 1;
    private static final int OVER_LIMIT = 2;
    private static final int NO_ROOM = 3;
    private static final int REASONS = 3;

    private static final int HIT_ASKED = 0;
    private static final int HIT_OTHER_BLOCK = 1;
    private static final int HIT_GUARD = 2;
    private static final int HIT_FREE = 3;
    private static final int HIT_UNASKED = 4;

    private static final int MOST_CHARACTERS = 60;
    /** So many commands of one sign fill a text, with the commas between them. */
    private static final int MOST_COMMANDS = 30;
    private static final int MOST_DIGITS = 3;
    private static final int NO_FAULT = -1;
    private static final int FAULT_BASE = -100;

    private static final int MOST_HISTORY = 4;

    private final State now;
    /** The state ahead of the act that goes on; made once, so that no call makes objects. */
    private final State before;
    private final State snapshot;
    private boolean hasSnapshot;
    private final History history;
    private final Text text;
    private final int[] refusals;
    private boolean hasStopped;
    private int stoppedCommand;
    private int stoppedError;

    public GuardedPool() {
        now = new State();
        before = new State();
        snapshot = new State();
        history = new History();
        text = new Text();
        refusals = new int[REASONS];
    }

    // ---- requests

    public int ask(int task, int words) {
        before.copyFrom(now);
        int answer = now.grant(task, words);
        if (answer == REFUSED) {
            countRefusal(now.whyNot(task, words));
        }
        return recorded(answer);
    }

    public int giveBack(int task, int block) {
        before.copyFrom(now);
        return recorded(now.takeBack(task, block));
    }

    public int write(int task, int block, int index, int value) {
        before.copyFrom(now);
        return recorded(now.put(task, block, index, value));
    }

    public int touch(int block) {
        before.copyFrom(now);
        return recorded(now.useNow(block));
    }

    // ---- tasks, time

    public int live(int task, boolean alive) {
        before.copyFrom(now);
        return recorded(now.makeAlive(task, alive));
    }

    public int setLimit(int task, int words) {
        before.copyFrom(now);
        return recorded(now.changeLimit(task, words));
    }

    public int setPatience(int ticks) {
        before.copyFrom(now);
        return recorded(now.changePatience(ticks));
    }

    public int pass(int ticks) {
        before.copyFrom(now);
        return recorded(now.advance(ticks));
    }

    public int sweep() {
        before.copyFrom(now);
        return recorded(now.takeLeaksBack());
    }

    // ---- texts

    public int type(char character) {
        return text.append(character);
    }

    public int clearText() {
        return text.drop();
    }

    public int perform() {
        int fault = text.read();
        if (fault != NO_FAULT) {
            return FAULT_BASE - fault;
        }
        before.copyFrom(now);
        int commands = text.commandCount();
        for (int i = 0; i < commands; i++) {
            int answer = answerTo(text.commandAt(i));
            if (isError(answer)) {
                noteStop(i, answer);
                now.copyFrom(before);
                return NOT_POSSIBLE;
            }
        }
        return recorded(commands);
    }

    public int stopped(int what) {
        if (what < 0 || what > 1) {
            return BAD_VALUE;
        }
        if (!hasStopped) {
            return NONE;
        }
        return what == 0 ? stoppedCommand : stoppedError;
    }

    // ---- history

    public int undo() {
        return history.takeLatest(now);
    }

    public int keep() {
        snapshot.copyFrom(now);
        hasSnapshot = true;
        return now.ownedBlocks();
    }

    public int restore() {
        if (!hasSnapshot) {
            return NONE;
        }
        before.copyFrom(now);
        now.copyFrom(snapshot);
        return recorded(now.ownedBlocks());
    }

    // ---- what is told

    public int block(int block, int what) {
        return now.tellBlock(block, what);
    }

    public int word(int word, int what) {
        return now.tellWord(word, what);
    }

    public int task(int task, int what) {
        return now.tellTask(task, what);
    }

    public int reason(int task, int words) {
        return now.whyNot(task, words);
    }

    public int greatest(int task) {
        return now.greatestRequest(task);
    }

    public int leak(int rank) {
        return now.leakOfRank(rank);
    }

    public int refused(int reason) {
        if (reason < 1 || reason > REASONS) {
            return BAD_VALUE;
        }
        return refusals[reason - 1];
    }

    public int size(int size, int what) {
        return now.tellSize(size, what);
    }

    public int count(int what) {
        switch (what) {
            case 10:
                return history.length();
            case 11:
                return text.length();
            default:
                return now.tellCount(what);
        }
    }

    private static boolean isError(int answer) {
        return answer < 0 && answer != NONE;
    }

    /** Records the state ahead of an act that was done, and hands its answer on. */
    private int recorded(int answer) {
        if (answer >= 0) {
            history.record(before);
        }
        return answer;
    }

    private void countRefusal(int reason) {
        if (reason >= 1 && reason <= REASONS) {
            refusals[reason - 1]++;
        }
    }

    private void noteStop(int command, int error) {
        hasStopped = true;
        stoppedCommand = command;
        stoppedError = error;
    }

    /** Does a command by the state's own acts, which count no refusal and record nothing. */
    private int answerTo(Command command) {
        if (command == null) {
            return NONE;
        }
        switch (command.kind) {
            case 'a':
                return now.grant(command.first, command.second);
            case 'f':
                return now.takeBack(command.first, command.second);
            case 't':
                return now.advance(command.first);
            case 'e':
                return now.makeAlive(command.first, false);
            case 's':
                return now.takeLeaksBack();
            default:
                return NONE;
        }
    }

    /** A place at which a block can begin; its size is NO_SIZE while none does. */
    private static final class Block {
        final int begin;
        int size;
        int owner;
        int number;
        int asked;
        int used;

        Block(int begin, int size) {
            this.begin = begin;
            this.size = size;
            this.owner = NOBODY;
        }

        static int wordsOf(int size) {
            return size < 0 || size >= SIZES ? 0 : SMALL_WORDS << size;
        }

        void copyFrom(Block other) {
            size = other.size;
            owner = other.owner;
            number = other.number;
            asked = other.asked;
            used = other.used;
        }

        int words() {
            return wordsOf(size);
        }

        boolean isOwned() {
            return owner != NOBODY;
        }

        boolean isFreeOf(int wantedSize) {
            return size == wantedSize && owner == NOBODY;
        }

        boolean holds(int word) {
            return word >= begin && word < begin + words();
        }

        int rearGuard() {
            return begin + 1 + asked;
        }

        boolean hasGuardAt(int word) {
            return isOwned() && (word == begin || word == rearGuard());
        }

        boolean wasAskedFor(int word) {
            return isOwned() && word > begin && word < rearGuard();
        }
    }

    private static final class Task {
        boolean alive;
        int limit;
        int guardsBroken;

        Task() {
            alive = true;
            limit = FIRST_LIMIT;
        }

        void copyFrom(Task other) {
            alive = other.alive;
            limit = other.limit;
            guardsBroken = other.guardsBroken;
        }
    }

    /** What undo() and restore() bring back. */
    private static final class State {
        private final Block[] blocks;
        /** A guard's value is 0 while it is whole: only values above 0 are ever written. */
        private final int[] values;
        private final Task[] tasks;
        private int clock;
        private int patience;
        private int granted;
        private int splits;
        private int joins;
        private int foundBroken;

        State() {
            blocks = new Block[PLACES];
            for (int i = 0; i < PLACES; i++) {
                int begin = i * SMALL_WORDS;
                blocks[i] = new Block(begin, begin % GREAT_WORDS == 0 ? GREAT : NO_SIZE);
            }
            values = new int[WORDS];
            tasks = new Task[TASKS];
            for (int i = 0; i < TASKS; i++) {
                tasks[i] = new Task();
            }
            patience = FIRST_PATIENCE;
        }

        void copyFrom(State other) {
            for (int i = 0; i < PLACES; i++) {
                blocks[i].copyFrom(other.blocks[i]);
            }
            System.arraycopy(other.values, 0, values, 0, WORDS);
            for (int i = 0; i < TASKS; i++) {
                tasks[i].copyFrom(other.tasks[i]);
            }
            clock = other.clock;
            patience = other.patience;
            granted = other.granted;
            splits = other.splits;
            joins = other.joins;
            foundBroken = other.foundBroken;
        }

        // -- acts

        int grant(int task, int words) {
            int why = whyNot(task, words);
            if (why < 0) {
                return why;
            }
            if (granted >= MOST_GRANTED) {
                return FULL;
            }
            Block block = why == 0 ? cutOut(sizeFor(words)) : null;
            if (block == null) {
                return REFUSED;
            }
            block.owner = task;
            block.number = granted;
            block.asked = words;
            block.used = clock;
            granted++;
            return block.number;
        }

        int takeBack(int task, int number) {
            Block block = blockOf(number);
            if (taskOf(task) == null || block == null) {
                return UNKNOWN;
            }
            if (block.owner != task) {
                return NOT_POSSIBLE;
            }
            return free(block);
        }

        int put(int task, int number, int index, int value) {
            Task writer = taskOf(task);
            Block named = blockOf(number);
            if (writer == null || named == null) {
                return UNKNOWN;
            }
            if (index < -WORDS || index > WORDS || value < 1 || value > MOST_VALUE) {
                return BAD_VALUE;
            }
            int word = named.begin + 1 + index;
            Block hit = blockAt(word);
            if (named.owner != task || !writer.alive || hit == null) {
                return NOT_POSSIBLE;
            }
            named.used = clock;
            int kind = kindOfHit(word, named, hit);
            if (kind == HIT_GUARD && valueAt(word) == 0) {
                writer.guardsBroken++;
            }
            if (kind != HIT_FREE) {
                setValue(word, value);
            }
            return kind;
        }

        int useNow(int number) {
            Block block = blockOf(number);
            if (block == null) {
                return UNKNOWN;
            }
            int age = ageOf(block);
            if (age == 0) {
                return NONE;
            }
            block.used = clock;
            return age;
        }

        int makeAlive(int task, boolean alive) {
            Task changed = taskOf(task);
            if (changed == null) {
                return UNKNOWN;
            }
            if (changed.alive == alive) {
                return NONE;
            }
            changed.alive = alive;
            return blocksOf(task);
        }

        int changeLimit(int task, int words) {
            Task changed = taskOf(task);
            if (changed == null) {
                return UNKNOWN;
            }
            if (words < 0 || words > WORDS) {
                return BAD_VALUE;
            }
            if (changed.limit == words) {
                return NONE;
            }
            int previous = changed.limit;
            changed.limit = words;
            return previous;
        }

        int changePatience(int ticks) {
            if (ticks < 1 || ticks > MOST_TICKS) {
                return BAD_VALUE;
            }
            if (patience == ticks) {
                return NONE;
            }
            int previous = patience;
            patience = ticks;
            return previous;
        }

        int advance(int ticks) {
            if (ticks < 1 || ticks > MOST_TICKS) {
                return BAD_VALUE;
            }
            if (clock + ticks > MOST_CLOCK) {
                return FULL;
            }
            int leaksBefore = leaks();
            clock += ticks;
            return leaks() - leaksBefore;
        }

        int takeLeaksBack() {
            int taken = 0;
            for (Block block : blocks) {
                if (isLeak(block)) {
                    free(block);
                    taken++;
                }
            }
            return taken == 0 ? NONE : taken;
        }

        // -- cutting and joining

        private static int sizeFor(int words) {
            int size = 0;
            while (size < GREAT && Block.wordsOf(size) < words + GUARDS) {
                size++;
            }
            return size;
        }

        private Block lowestFree(int size) {
            for (Block block : blocks) {
                if (block.isFreeOf(size)) {
                    return block;
                }
            }
            return null;
        }

        /** The free block that a request of this size gets ahead of splitting, or null. */
        private Block roomFor(int size) {
            for (int from = size; from < SIZES; from++) {
                Block free = lowestFree(from);
                if (free != null) {
                    return free;
                }
            }
            return null;
        }

        private Block cutOut(int size) {
            Block free = roomFor(size);
            if (free == null) {
                return null;
            }
            for (int from = free.size; from > size; from--) {
                halve(free);
            }
            return free;
        }

        /** Splits a block, which becomes its own lower half. */
        private void halve(Block whole) {
            Block upper = placeAt(whole.begin + whole.words() / 2);
            if (upper == null) {
                return;
            }
            whole.size--;
            upper.size = whole.size;
            splits++;
        }

        /** Frees an owned block and answers how many of its guards are broken. */
        private int free(Block block) {
            int broken = brokenGuards(block);
            foundBroken += broken;
            int end = block.begin + block.words();
            for (int word = block.begin; word < end; word++) {
                setValue(word, 0);
            }
            block.owner = NOBODY;
            joinTwins(block);
            return broken;
        }

        private void joinTwins(Block freed) {
            Block lower = freed;
            for (int size = freed.size; size < GREAT; size++) {
                Block twin = placeAt(lower.begin ^ Block.wordsOf(size));
                if (twin == null || !twin.isFreeOf(size)) {
                    return;
                }
                Block upper = twin;
                if (twin.begin < lower.begin) {
                    upper = lower;
                    lower = twin;
                }
                upper.size = NO_SIZE;
                lower.size = size + 1;
                joins++;
            }
        }

        // -- finding

        private Task taskOf(int task) {
            return task < 0 || task >= TASKS ? null : tasks[task];
        }

        private Block blockOf(int number) {
            for (Block block : blocks) {
                if (block.isOwned() && block.number == number) {
                    return block;
                }
            }
            return null;
        }

        /** The block, owned or free, in which the word lies; null beyond the pool. */
        private Block blockAt(int word) {
            for (Block block : blocks) {
                if (block.holds(word)) {
                    return block;
                }
            }
            return null;
        }

        private Block placeAt(int begin) {
            return begin < 0 || begin >= WORDS ? null : blocks[begin / SMALL_WORDS];
        }

        private int valueAt(int word) {
            return word < 0 || word >= WORDS ? 0 : values[word];
        }

        private void setValue(int word, int value) {
            if (word >= 0 && word < WORDS) {
                values[word] = value;
            }
        }

        private static int kindOfHit(int word, Block named, Block hit) {
            if (!hit.isOwned()) {
                return HIT_FREE;
            }
            if (hit.hasGuardAt(word)) {
                return HIT_GUARD;
            }
            if (hit != named) {
                return HIT_OTHER_BLOCK;
            }
            return hit.wasAskedFor(word) ? HIT_ASKED : HIT_UNASKED;
        }

        private int brokenGuards(Block block) {
            int front = valueAt(block.begin) == 0 ? 0 : 1;
            int rear = valueAt(block.rearGuard()) == 0 ? 0 : 1;
            return front + rear;
        }

        private int ageOf(Block block) {
            return clock - block.used;
        }

        private boolean isLeak(Block block) {
            Task owner = taskOf(block.owner);
            return owner != null && (!owner.alive || ageOf(block) >= patience);
        }

        // -- telling

        int tellBlock(int number, int what) {
            Block block = blockOf(number);
            if (block == null) {
                return UNKNOWN;
            }
            switch (what) {
                case 0:
                    return block.begin;
                case 1:
                    return block.size;
                case 2:
                    return block.owner;
                case 3:
                    return block.asked;
                case 4:
                    return brokenGuards(block);
                case 5:
                    return ageOf(block);
                case 6:
                    return isLeak(block) ? 1 : 0;
                default:
                    return BAD_VALUE;
            }
        }

        int tellWord(int word, int what) {
            Block block = blockAt(word);
            if (block == null) {
                return UNKNOWN;
            }
            switch (what) {
                case 0:
                    return valueAt(word);
                case 1:
                    return block.isOwned() ? block.number : NONE;
                case 2:
                    return block.hasGuardAt(word) ? 1 : 0;
                case 3:
                    return block.size;
                default:
                    return BAD_VALUE;
            }
        }

        int tellTask(int task, int what) {
            Task told = taskOf(task);
            if (told == null) {
                return UNKNOWN;
            }
            switch (what) {
                case 0:
                    return told.alive ? 1 : 0;
                case 1:
                    return blocksOf(task);
                case 2:
                    return wordsOf(task);
                case 3:
                    return askedBy(task);
                case 4:
                    return told.limit;
                case 5:
                    return leaksOf(task);
                case 6:
                    return told.guardsBroken;
                default:
                    return BAD_VALUE;
            }
        }

        int tellSize(int size, int what) {
            if (size < 0 || size >= SIZES) {
                return UNKNOWN;
            }
            switch (what) {
                case 0:
                    return blocksOfSize(size, false);
                case 1:
                    return blocksOfSize(size, true);
                case 2:
                    Block lowest = lowestFree(size);
                    return lowest == null ? NONE : lowest.begin;
                default:
                    return BAD_VALUE;
            }
        }

        int tellCount(int what) {
            switch (what) {
                case 0:
                    return ownedBlocks();
                case 1:
                    return WORDS - ownedWords();
                case 2:
                    return ownedWords() - askedWords();
                case 3:
                    return leaks();
                case 4:
                    return clock;
                case 5:
                    return splits;
                case 6:
                    return joins;
                case 7:
                    return foundBroken;
                case 8:
                    return granted;
                case 9:
                    return patience;
                default:
                    return BAD_VALUE;
            }
        }

        /** 0 or the reason why a request would be refused, or UNKNOWN or BAD_VALUE. */
        int whyNot(int task, int words) {
            Task asker = taskOf(task);
            if (asker == null) {
                return UNKNOWN;
            }
            if (words < 1 || words > MOST_ASKED) {
                return BAD_VALUE;
            }
            if (!asker.alive) {
                return TASK_ENDED;
            }
            int size = sizeFor(words);
            if (wordsOf(task) + Block.wordsOf(size) > asker.limit) {
                return OVER_LIMIT;
            }
            return roomFor(size) == null ? NO_ROOM : 0;
        }

        int greatestRequest(int task) {
            if (taskOf(task) == null) {
                return UNKNOWN;
            }
            for (int words = MOST_ASKED; words >= 1; words--) {
                if (whyNot(task, words) == 0) {
                    return words;
                }
            }
            return NONE;
        }

        int leakOfRank(int rank) {
            if (rank < 0) {
                return BAD_VALUE;
            }
            for (Block block : blocks) {
                if (isLeak(block) && leaksAheadOf(block) == rank) {
                    return block.number;
                }
            }
            return NONE;
        }

        private int leaksAheadOf(Block block) {
            int ahead = 0;
            for (Block other : blocks) {
                boolean isAhead = other.used < block.used
                    || other.used == block.used && other.number < block.number;
                if (isAhead && isLeak(other)) {
                    ahead++;
                }
            }
            return ahead;
        }

        // -- counting

        int ownedBlocks() {
            int owned = 0;
            for (int task = 0; task < TASKS; task++) {
                owned += blocksOf(task);
            }
            return owned;
        }

        private int ownedWords() {
            int owned = 0;
            for (int task = 0; task < TASKS; task++) {
                owned += wordsOf(task);
            }
            return owned;
        }

        private int askedWords() {
            int asked = 0;
            for (int task = 0; task < TASKS; task++) {
                asked += askedBy(task);
            }
            return asked;
        }

        private int leaks() {
            int leaks = 0;
            for (int task = 0; task < TASKS; task++) {
                leaks += leaksOf(task);
            }
            return leaks;
        }

        private int blocksOf(int task) {
            int blocksOwned = 0;
            for (Block block : blocks) {
                if (block.owner == task) {
                    blocksOwned++;
                }
            }
            return blocksOwned;
        }

        private int wordsOf(int task) {
            int words = 0;
            for (Block block : blocks) {
                if (block.owner == task) {
                    words += block.words();
                }
            }
            return words;
        }

        private int askedBy(int task) {
            int asked = 0;
            for (Block block : blocks) {
                if (block.owner == task) {
                    asked += block.asked;
                }
            }
            return asked;
        }

        private int leaksOf(int task) {
            int leaks = 0;
            for (Block block : blocks) {
                if (block.owner == task && isLeak(block)) {
                    leaks++;
                }
            }
            return leaks;
        }

        private int blocksOfSize(int size, boolean owned) {
            int found = 0;
            for (Block block : blocks) {
                if (block.size == size && block.isOwned() == owned) {
                    found++;
                }
            }
            return found;
        }
    }

    /** The latest states, in a ring whose places are used again. */
    private static final class History {
        private final State[] states;
        private int next;
        private int length;

        History() {
            states = new State[MOST_HISTORY];
            for (int i = 0; i < MOST_HISTORY; i++) {
                states[i] = new State();
            }
        }

        int length() {
            return length;
        }

        void record(State state) {
            if (next < 0 || next >= MOST_HISTORY) {
                return;
            }
            states[next].copyFrom(state);
            next = (next + 1) % MOST_HISTORY;
            length = Math.min(length + 1, MOST_HISTORY);
        }

        int takeLatest(State into) {
            int latest = next == 0 ? MOST_HISTORY - 1 : next - 1;
            if (length == 0 || latest < 0 || latest >= MOST_HISTORY) {
                return NONE;
            }
            into.copyFrom(states[latest]);
            next = latest;
            length--;
            return length;
        }
    }

    private static final class Command {
        /** The sign with which the command begins; it tells which of the numbers count. */
        int kind;
        int first;
        int second;
    }

    /** The typed text, and the commands that were read from it last. */
    private static final class Text {
        private final char[] characters;
        private int length;
        private final Command[] commands;
        private int commandCount;
        /** While reading, the place of the next character; behind a fault it stays there. */
        private int position;
        private boolean faulty;

        Text() {
            characters = new char[MOST_CHARACTERS];
            commands = new Command[MOST_COMMANDS];
            for (int i = 0; i < MOST_COMMANDS; i++) {
                commands[i] = new Command();
            }
        }

        int length() {
            return length;
        }

        int commandCount() {
            return commandCount;
        }

        Command commandAt(int index) {
            return index < 0 || index >= MOST_COMMANDS ? null : commands[index];
        }

        int append(char character) {
            if (length < 0 || length >= MOST_CHARACTERS) {
                return FULL;
            }
            characters[length] = character;
            length++;
            return length;
        }

        int drop() {
            int previous = length;
            length = 0;
            return previous;
        }

        /** Reads all commands; answers the fault of the text, or NO_FAULT. */
        int read() {
            position = 0;
            faulty = false;
            commandCount = 0;
            for (int i = 0; i < MOST_COMMANDS; i++) {
                readCommand(commands[i]);
                if (faulty) {
                    return position;
                }
                commandCount++;
                if (position == length) {
                    return NO_FAULT;
                }
                readSign(',');
                if (faulty) {
                    return position;
                }
            }
            // Behind the comma of the last command that has room, the text ends too early.
            return position;
        }

        private void readCommand(Command command) {
            command.kind = signHere();
            switch (command.kind) {
                case 'a':
                    readTwoNumbers(command, 1, MOST_ASKED);
                    break;
                case 'f':
                    readTwoNumbers(command, 0, MOST_GRANTED - 1);
                    break;
                case 't':
                    position++;
                    command.first = readNumber(1, MOST_TICKS);
                    break;
                case 'e':
                    position++;
                    command.first = readNumber(0, TASKS - 1);
                    break;
                case 's':
                    position++;
                    break;
                default:
                    faulty = true;
            }
        }

        /** Reads the letter, the task, the colon and the number behind it. */
        private void readTwoNumbers(Command command, int least, int most) {
            position++;
            command.first = readNumber(0, TASKS - 1);
            readSign(':');
            command.second = readNumber(least, most);
        }

        private void readSign(char sign) {
            if (faulty || signHere() != sign) {
                faulty = true;
                return;
            }
            position++;
        }

        /** Reads a number whose least value has one digit. */
        private int readNumber(int least, int most) {
            int number = digitHere();
            if (faulty || number < least || number > most) {
                faulty = true;
                return 0;
            }
            position++;
            for (int digits = 1; digits <= MOST_DIGITS; digits++) {
                int digit = digitHere();
                if (digit < 0) {
                    return number;
                }
                if (number == 0 || number * 10 + digit > most) {
                    faulty = true;
                    return 0;
                }
                number = number * 10 + digit;
                position++;
            }
            return number;
        }

        private int digitHere() {
            char sign = signHere();
            return sign >= '0' && sign <= '9' ? sign - '0' : -1;
        }

        /** The next character; at the end (char) 0, which no command holds either. */
        private char signHere() {
            boolean inside = position >= 0 && position < length && position < MOST_CHARACTERS;
            return inside ? characters[position] : (char) 0;
        }
    }
}
