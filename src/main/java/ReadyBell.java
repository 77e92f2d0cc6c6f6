/** A house of handles that can be read, written and waited for; ../shared/DOC.md says what each call does. */
public final class ReadyBell {
    public static final int NONE = -1;

    private static final int HANDLES = 16;
    private static final int WAITING = 12;
    /** Each handle names one thing at most, and no more than WAITING stand unnamed at listeners. */
    private static final int THINGS = HANDLES + WAITING;
    private static final int INTERESTS = 24;
    private static final int TASKS = 6;
    private static final int STEPS = 4;
    private static final int MOST_GOT = 8;
    private static final int DEEPEST = 3;
    private static final int MOST_HELD = 1000;
    private static final int MOST_BYTES = 100;
    private static final int MOST_ROOM = 100;
    private static final int LONGEST = 1000;
    private static final int MOST_TICKS = 100;
    private static final int LAST_TIME = 100000;
    private static final int MOST_ROUNDS = 50;
    private static final int STUCK_ROUNDS = 60;
    private static final int MOST_ACTS = 12;
    private static final int BOXES = 2;

    private static final int READING = 0;
    private static final int WRITING = 1;
    private static final int COUNTER = 2;
    private static final int TIMER = 3;
    private static final int SET = 4;
    private static final int LISTENER = 5;

    private static final int IN = 1;
    private static final int OUT = 2;
    private static final int ENDED = 4;
    private static final int BROKEN = 8;

    private static final int EDGE = 1;
    private static final int ONCE = 2;
    private static final int ALONE = 4;
    private static final int MOST_MASK = IN | OUT;
    private static final int MOST_HOW = EDGE | ONCE | ALONE;

    private static final int DO_WRITE = 0;
    private static final int DO_READ = 1;
    private static final int DO_COLLECT = 2;
    private static final int DO_AWAIT = 3;
    private static final int DO_CLOSE = 4;
    private static final int DO_REARM = 5;
    private static final int DO_ACCEPT = 6;
    private static final int DO_CONNECT = 7;

    private static final int REFUSED = -2;
    private static final int TOO_DEEP = -3;
    private static final int TOO_MANY = -4;
    private static final int STEP_ASLEEP = -3;
    private static final int STEP_MISSING = -4;

    // All that there is lies in one row of cells, column behind column, so that
    // an act is kept, and taken back, by one copy that makes nothing new.
    private static final int TIME = 0;
    /** Who came first is told by stamps: of waiting ends, of listed interests, of sleepers. */
    private static final int STAMP = 1;
    private static final int COUNT = 2;
    private static final int NAMES = 3;

    private static final int KIND = NAMES + HANDLES;
    /** Both ends of a pipe hold its bytes, so that either outlives the other; a listener holds how many wait. */
    private static final int HELD = KIND + THINGS;
    private static final int ROOM = HELD + THINGS;
    private static final int BY_ONES = ROOM + THINGS;
    private static final int PARTNER = BY_ONES + THINGS;
    private static final int NEXT = PARTNER + THINGS;
    private static final int EVERY = NEXT + THINGS;
    private static final int BACKLOG = EVERY + THINGS;
    private static final int WAITS_AT = BACKLOG + THINGS;
    private static final int WAITS_SINCE = WAITS_AT + THINGS;

    private static final int OWNER = WAITS_SINCE + THINGS;
    private static final int AIM = OWNER + INTERESTS;
    private static final int NUMBER = AIM + INTERESTS;
    private static final int MASK = NUMBER + INTERESTS;
    private static final int HOW = MASK + INTERESTS;
    private static final int ARMED = HOW + INTERESTS;
    private static final int LISTED_SINCE = ARMED + INTERESTS;
    private static final int NOTICED = LISTED_SINCE + INTERESTS;
    private static final int TAKEN = NOTICED + INTERESTS;
    private static final int LEFT = TAKEN + INTERESTS;
    private static final int INTERESTS_END = LEFT + INTERESTS;

    private static final int SLEEPS_AT = INTERESTS_END;
    private static final int SLEEPS_SINCE = SLEEPS_AT + TASKS;
    private static final int UP = SLEEPS_SINCE + TASKS;
    private static final int UNTIL = UP + TASKS;
    private static final int LATEST = UNTIL + TASKS;
    private static final int TOTAL = LATEST + TASKS;
    private static final int WOKEN_FED = TOTAL + TASKS;
    private static final int WOKEN_EMPTY = WOKEN_FED + TASKS;
    private static final int LOST = WOKEN_EMPTY + TASKS;
    private static final int GOES_ROUND = LOST + TASKS;
    private static final int STEPS_LEFT = GOES_ROUND + TASKS;
    private static final int OPERATION = STEPS_LEFT + TASKS;
    private static final int FIRST = OPERATION + TASKS * STEPS;
    private static final int SECOND = FIRST + TASKS * STEPS;
    private static final int GOT_NUMBER = SECOND + TASKS * STEPS;
    private static final int GOT_BITS = GOT_NUMBER + TASKS * MOST_GOT;
    private static final int SIZE = GOT_BITS + TASKS * MOST_GOT;

    private final int[] cells;
    private final House house;
    private final House trial;
    private final Past past;
    private final Paths paths;
    private final int[] boxes;
    private int filled;

    public ReadyBell() {
        cells = emptyCells();
        house = new House(cells);
        int[] rehearsal = emptyCells();
        trial = new House(rehearsal);
        paths = new Paths(trial, rehearsal);
        past = new Past();
        past.restart(cells);
        boxes = new int[BOXES * SIZE];
        filled = 0;
    }

    private static int[] emptyCells() {
        int[] made = new int[SIZE];
        fillWithNone(made, NAMES, HANDLES);
        fillWithNone(made, KIND, THINGS);
        fillWithNone(made, WAITS_AT, THINGS);
        fillWithNone(made, SLEEPS_AT, TASKS);
        fillWithNone(made, UNTIL, TASKS);
        return made;
    }

    private static void fillWithNone(int[] made, int column, int length) {
        for (int k = column; k < column + length; k++) {
            made[k] = NONE;
        }
    }

    private static boolean between(int value, int least, int most) {
        return value >= least && value <= most;
    }

    private static boolean isTask(int task) {
        return task >= 0 && task < TASKS;
    }

    /** An answer from 'least' on tells of an act; what is below did nothing. */
    private int keptFrom(int least, int answer) {
        if (answer >= least) {
            past.keep(cells);
        }
        return answer;
    }

    private boolean keptIf(boolean did) {
        if (did) {
            past.keep(cells);
        }
        return did;
    }

    /** The trial is another house, as this one is now: what is done there is not done here. */
    private void rehearse() {
        trial.become(cells);
    }

    private int setOf(int handle) {
        return house.things.thingOfKind(handle, SET);
    }

    public int pipe(int room) {
        return keptFrom(0, house.makePipe(room));
    }

    public int counter(int value, boolean byOnes) {
        if (!between(value, 0, MOST_HELD)) {
            return NONE;
        }
        int handle = house.makeNamed(COUNTER);
        int thing = house.things.thingOf(handle);
        if (thing < 0) {
            return NONE;
        }
        cells[HELD + thing] = value;
        cells[BY_ONES + thing] = byOnes ? 1 : 0;
        return keptFrom(0, handle);
    }

    public int timer() {
        return keptFrom(0, house.makeNamed(TIMER));
    }

    public int set() {
        return keptFrom(0, house.makeNamed(SET));
    }

    public int listener(int backlog, int room) {
        if (!between(backlog, 1, WAITING) || !between(room, 1, MOST_ROOM)) {
            return NONE;
        }
        int handle = house.makeNamed(LISTENER);
        int thing = house.things.thingOf(handle);
        if (thing < 0) {
            return NONE;
        }
        cells[BACKLOG + thing] = backlog;
        cells[ROOM + thing] = room;
        return keptFrom(0, handle);
    }

    public int connect(int handle) {
        return keptFrom(0, house.connectTo(handle));
    }

    public int accept(int handle) {
        return keptFrom(0, house.acceptFrom(handle));
    }

    public int twin(int handle) {
        int thing = house.things.thingOf(handle);
        int made = house.things.freeHandle();
        if (thing < 0 || made < 0) {
            return NONE;
        }
        house.things.giveName(made, thing);
        return keptFrom(0, made);
    }

    public boolean close(int handle) {
        return keptIf(house.closeHandle(handle));
    }

    public int write(int handle, int n) {
        return keptFrom(1, house.writeTo(handle, n));
    }

    public int read(int handle, int n) {
        return keptFrom(1, house.readFrom(handle, n));
    }

    public boolean arm(int handle, int first, int every) {
        return keptIf(house.armTimer(handle, first, every));
    }

    public int tick(int n) {
        if (!between(n, 1, MOST_TICKS) || cells[TIME] + n > LAST_TIME) {
            return NONE;
        }
        for (int k = 0; k < n; k++) {
            house.passTime();
        }
        return keptFrom(0, cells[TIME]);
    }

    public int add(int set, int handle, int mask, int how) {
        return keptFrom(1, house.addInterest(set, handle, mask, how));
    }

    public boolean change(int set, int handle, int mask, int how) {
        int i = house.findInterest(set, handle);
        if (i < 0 || !between(mask, 0, MOST_MASK) || !between(how, 0, MOST_HOW)) {
            return false;
        }
        cells[MASK + i] = mask;
        cells[HOW + i] = how;
        return keptIf(house.armInterest(i));
    }

    public boolean drop(int set, int handle) {
        int i = house.findInterest(set, handle);
        if (i < 0) {
            return false;
        }
        house.interests.remove(i);
        return keptIf(true);
    }

    public int collect(int task, int set, int up) {
        return keptFrom(0, house.collectAt(task, set, up));
    }

    public int await(int task, int set, int up, int within) {
        int answer = house.awaitAt(task, set, up, within);
        keptIf(answer != NONE);
        return answer;
    }

    public int handle(int handle, int what) {
        int thing = house.things.thingOf(handle);
        if (thing < 0) {
            return NONE;
        }
        switch (what) {
            case 0: return cells[KIND + thing];
            case 1: return cells[KIND + thing] == SET ? house.interests.heldBy(thing) : cells[HELD + thing];
            case 2: return house.interests.ready(thing, 0);
            case 3: return house.things.handlesOf(thing);
            case 4: return house.interests.aimedAt(thing);
            case 5: return measureOf(thing);
            default: return NONE;
        }
    }

    private int measureOf(int thing) {
        switch (cells[KIND + thing]) {
            case READING:
            case WRITING: return cells[ROOM + thing];
            case COUNTER: return cells[BY_ONES + thing];
            case TIMER: return cells[NEXT + thing];
            case SET: return house.tasks.sleepersAt(thing);
            case LISTENER: return cells[BACKLOG + thing];
            default: return NONE;
        }
    }

    public int other(int handle) {
        int thing = house.things.thingOf(handle);
        return thing < 0 ? NONE : house.things.lowestHandle(cells[PARTNER + thing]);
    }

    public int interest(int set, int k, int what) {
        int owner = setOf(set);
        int i = owner < 0 ? NONE : house.interests.ofSet(owner, k);
        if (i < 0) {
            return NONE;
        }
        switch (what) {
            case 0: return cells[NUMBER + i];
            case 1: return cells[MASK + i];
            case 2: return cells[HOW + i];
            case 3: return cells[ARMED + i];
            case 4: return house.interests.placeOf(i);
            case 5: return house.interests.tells(i) != 0 ? 1 : 0;
            case 6: return house.things.thingOf(cells[NUMBER + i]) == cells[AIM + i] ? 1 : 0;
            case 7: return cells[NOTICED + i];
            case 8: return cells[TAKEN + i];
            case 9: return cells[LEFT + i];
            default: return NONE;
        }
    }

    public int listed(int set) {
        int owner = setOf(set);
        return owner < 0 ? NONE : house.interests.listedBy(owner);
    }

    public int shows(int set) {
        int owner = setOf(set);
        return owner < 0 ? NONE : house.interests.shownBy(owner);
    }

    public int shown(int set, int i) {
        int owner = setOf(set);
        int at = owner < 0 ? NONE : house.interests.showing(owner, i);
        return at < 0 ? NONE : cells[NUMBER + at];
    }

    public int depth(int set) {
        int owner = setOf(set);
        return owner < 0 ? NONE : house.interests.deepBelow(owner, 1);
    }

    public int sleeper(int set, int i) {
        int owner = setOf(set);
        return owner < 0 ? NONE : house.tasks.sleeping(owner, i);
    }

    public int task(int task, int what) {
        if (!isTask(task)) {
            return NONE;
        }
        switch (what) {
            case 0: return cells[SLEEPS_AT + task] >= 0 ? 1 : 0;
            case 1: return house.things.lowestHandle(cells[SLEEPS_AT + task]);
            case 2: return cells[LATEST + task];
            case 3: return cells[TOTAL + task];
            case 4: return cells[WOKEN_FED + task];
            case 5: return cells[WOKEN_EMPTY + task];
            case 6: return cells[LOST + task];
            case 7: return cells[UNTIL + task];
            case 8: return cells[STEPS_LEFT + task];
            case 9: return cells[GOES_ROUND + task];
            default: return NONE;
        }
    }

    public int got(int task, int i, int what) {
        if (!isTask(task) || i < 0 || i >= cells[LATEST + task]) {
            return NONE;
        }
        switch (what) {
            case 0: return cells[GOT_NUMBER + task * MOST_GOT + i];
            case 1: return cells[GOT_BITS + task * MOST_GOT + i];
            default: return NONE;
        }
    }

    public int wakes(int handle) {
        if (house.things.thingOf(handle) < 0) {
            return NONE;
        }
        rehearse();
        trial.writeTo(handle, 1);
        return trial.fed;
    }

    public int plan(int task, int operation, int a, int b) {
        if (!isTask(task) || !between(operation, DO_WRITE, DO_CONNECT)) {
            return NONE;
        }
        return keptFrom(0, house.tasks.putStep(task, operation, a, b));
    }

    public boolean round(int task, boolean is) {
        int wanted = is ? 1 : 0;
        if (!isTask(task) || cells[GOES_ROUND + task] == wanted) {
            return false;
        }
        cells[GOES_ROUND + task] = wanted;
        return keptIf(true);
    }

    public int rounds(int n) {
        if (!between(n, 1, MOST_ROUNDS)) {
            return NONE;
        }
        int done = 0;
        for (int k = 0; k < n; k++) {
            done += house.goOneRound();
        }
        return keptFrom(0, done);
    }

    public int stuck() {
        rehearse();
        for (int k = 0; k < STUCK_ROUNDS; k++) {
            trial.goOneRound();
            if (trial.time() < LAST_TIME) {
                trial.passTime();
            }
        }
        return trial.tasks.asleep();
    }

    public int soon(int set) {
        int owner = setOf(set);
        if (owner < 0) {
            return NONE;
        }
        if (house.interests.ready(owner, 0) != 0) {
            return cells[TIME];
        }
        rehearse();
        for (int k = 0; k < MOST_TICKS && trial.time() < LAST_TIME; k++) {
            trial.passTime();
            if (trial.hasWokenAt(owner) || trial.interests.ready(owner, 0) != 0) {
                return trial.time();
            }
        }
        return NONE;
    }

    public int calls(int handle, int bit) {
        int thing = house.things.thingOf(handle);
        boolean known = bit == IN || bit == OUT || bit == ENDED || bit == BROKEN;
        if (thing < 0 || !known) {
            return NONE;
        }
        rehearse();
        trial.sendNotice(thing, bit, 0);
        return trial.calledHandles();
    }

    public int image(int box) {
        if (box < 0 || box >= BOXES) {
            return NONE;
        }
        System.arraycopy(cells, 0, boxes, box * SIZE, SIZE);
        filled |= 1 << box;
        return house.things.living();
    }

    public int back(int box) {
        if (box < 0 || box >= BOXES || (filled & 1 << box) == 0) {
            return NONE;
        }
        System.arraycopy(boxes, box * SIZE, cells, 0, SIZE);
        past.restart(cells);
        return house.things.living();
    }

    public int forget(int task) {
        if (!isTask(task) || cells[STEPS_LEFT + task] == 0) {
            return NONE;
        }
        int left = cells[STEPS_LEFT + task];
        cells[STEPS_LEFT + task] = 0;
        return keptFrom(0, left);
    }

    public int step(int task) {
        if (!isTask(task)) {
            return STEP_MISSING;
        }
        if (cells[SLEEPS_AT + task] >= 0) {
            return STEP_ASLEEP;
        }
        if (cells[STEPS_LEFT + task] == 0) {
            return STEP_MISSING;
        }
        int answer = house.doStep(task);
        past.keep(cells);
        return answer;
    }

    public int orders(int task, int other, int what) {
        if (!isTask(task) || !isTask(other) || task == other) {
            return NONE;
        }
        if (cells[GOES_ROUND + task] != 0 || cells[GOES_ROUND + other] != 0) {
            return NONE;
        }
        rehearse();
        paths.begin(task, other);
        paths.explore(0);
        return paths.tallyOf(what);
    }

    public boolean undo() {
        return past.goBack(cells);
    }

    public boolean redo() {
        return past.goForth(cells);
    }

    public int about(int what) {
        switch (what) {
            case 0: return house.things.handleBits();
            case 1: return cells[COUNT];
            case 2: return cells[TIME];
            case 3: return house.tasks.asleep();
            case 4: return past.behind;
            case 5: return past.ahead;
            case 6: return house.things.living();
            default: return NONE;
        }
    }

    /** What handles name, and the ends that wait unnamed at listeners. */
    private static final class Things {
        private final int[] cells;

        Things(int[] cells) {
            this.cells = cells;
        }

        int thingOf(int handle) {
            return handle >= 0 && handle < HANDLES ? cells[NAMES + handle] : NONE;
        }

        int thingOfKind(int handle, int kind) {
            int thing = thingOf(handle);
            return thing >= 0 && cells[KIND + thing] == kind ? thing : NONE;
        }

        int freeHandle() {
            return firstNaming(NONE);
        }

        int freeHandles() {
            return handlesOf(NONE);
        }

        /** NONE for what is not there, so that a partner that is GONE may be asked for. */
        int lowestHandle(int thing) {
            return thing < 0 ? NONE : firstNaming(thing);
        }

        private int firstNaming(int thing) {
            for (int h = 0; h < HANDLES; h++) {
                if (cells[NAMES + h] == thing) {
                    return h;
                }
            }
            return NONE;
        }

        int handlesOf(int thing) {
            int n = 0;
            for (int h = 0; h < HANDLES; h++) {
                if (cells[NAMES + h] == thing) {
                    n++;
                }
            }
            return n;
        }

        int handleBits() {
            int bits = 0;
            for (int h = 0; h < HANDLES; h++) {
                if (cells[NAMES + h] >= 0) {
                    bits |= 1 << h;
                }
            }
            return bits;
        }

        void giveName(int handle, int thing) {
            if (handle >= 0 && handle < HANDLES) {
                cells[NAMES + handle] = thing;
            }
        }

        int makeThing(int kind) {
            for (int thing = 0; thing < THINGS; thing++) {
                if (cells[KIND + thing] < 0) {
                    cells[KIND + thing] = kind;
                    cells[HELD + thing] = 0;
                    cells[ROOM + thing] = 0;
                    cells[BY_ONES + thing] = 0;
                    cells[PARTNER + thing] = NONE;
                    cells[NEXT + thing] = NONE;
                    cells[EVERY + thing] = 0;
                    cells[BACKLOG + thing] = 0;
                    cells[WAITS_AT + thing] = NONE;
                    cells[WAITS_SINCE + thing] = 0;
                    return thing;
                }
            }
            return NONE;
        }

        /** Both ends of a new pipe, unnamed so far: the reading end, whose partner is the writing end. */
        int makeEnds(int room) {
            int reading = makeThing(READING);
            int writing = makeThing(WRITING);
            if (reading < 0 || writing < 0) {
                return NONE;
            }
            cells[ROOM + reading] = room;
            cells[ROOM + writing] = room;
            cells[PARTNER + reading] = writing;
            cells[PARTNER + writing] = reading;
            return reading;
        }

        void remove(int thing) {
            int partner = cells[PARTNER + thing];
            if (partner >= 0) {
                cells[PARTNER + partner] = NONE;
            }
            cells[KIND + thing] = NONE;
            cells[WAITS_AT + thing] = NONE;
        }

        void setHeld(int thing, int held) {
            int partner = cells[PARTNER + thing];
            cells[HELD + thing] = held;
            if (partner >= 0) {
                cells[HELD + partner] = held;
            }
        }

        int waitingInAll() {
            int n = 0;
            for (int thing = 0; thing < THINGS; thing++) {
                if (cells[WAITS_AT + thing] >= 0) {
                    n++;
                }
            }
            return n;
        }

        int longestWaiting(int listener) {
            int best = NONE;
            for (int thing = 0; thing < THINGS; thing++) {
                if (cells[WAITS_AT + thing] == listener
                        && (best < 0 || cells[WAITS_SINCE + thing] < cells[WAITS_SINCE + best])) {
                    best = thing;
                }
            }
            return best;
        }

        int living() {
            int n = 0;
            for (int thing = 0; thing < THINGS; thing++) {
                if (cells[KIND + thing] >= 0) {
                    n++;
                }
            }
            return n;
        }
    }

    /** The interests of all sets, in the order in which they were added, and the lists of the sets. */
    private static final class Interests {
        private final int[] cells;

        Interests(int[] cells) {
            this.cells = cells;
        }

        int find(int set, int number, int thing) {
            int count = cells[COUNT];
            for (int i = 0; i < count; i++) {
                if (cells[OWNER + i] == set && cells[NUMBER + i] == number && cells[AIM + i] == thing) {
                    return i;
                }
            }
            return NONE;
        }

        int heldBy(int set) {
            return countOf(OWNER, set);
        }

        int aimedAt(int thing) {
            return countOf(AIM, thing);
        }

        private int countOf(int column, int value) {
            int count = cells[COUNT];
            int n = 0;
            for (int i = 0; i < count; i++) {
                if (cells[column + i] == value) {
                    n++;
                }
            }
            return n;
        }

        int ofSet(int set, int k) {
            int count = cells[COUNT];
            int n = 0;
            for (int i = 0; i < count; i++) {
                if (cells[OWNER + i] == set) {
                    if (n == k) {
                        return i;
                    }
                    n++;
                }
            }
            return NONE;
        }

        int append(int set, int number, int thing, int mask, int how) {
            int i = cells[COUNT];
            if (i >= INTERESTS) {
                return NONE;
            }
            cells[COUNT] = i + 1;
            cells[OWNER + i] = set;
            cells[AIM + i] = thing;
            cells[NUMBER + i] = number;
            cells[MASK + i] = mask;
            cells[HOW + i] = how;
            cells[ARMED + i] = 0;
            cells[LISTED_SINCE + i] = NONE;
            cells[NOTICED + i] = 0;
            cells[TAKEN + i] = 0;
            cells[LEFT + i] = 0;
            return i;
        }

        /** Those behind move up: their order stays, and nothing else refers to them by place. */
        void remove(int i) {
            int behind = cells[COUNT] - i - 1;
            if (i < 0 || behind < 0) {
                return;
            }
            for (int column = OWNER; column < INTERESTS_END; column += INTERESTS) {
                System.arraycopy(cells, column + i + 1, cells, column + i, behind);
            }
            cells[COUNT]--;
        }

        void removeAllOf(int thing) {
            for (int i = cells[COUNT] - 1; i >= 0; i--) {
                if (cells[AIM + i] == thing || cells[OWNER + i] == thing) {
                    remove(i);
                }
            }
        }

        boolean heeds(int i, int bit) {
            return cells[ARMED + i] != 0 && (bitsOf(i) & bit) != 0;
        }

        int bitsOf(int i) {
            return cells[MASK + i] | ENDED | BROKEN;
        }

        /** The bits by which an interest is TRUE. (Deep down this is written out: calls go at most eight deep.) */
        int tells(int i) {
            return cells[ARMED + i] == 0 ? 0 : bitsOf(i) & ready(cells[AIM + i], 0);
        }

        /** The level counts sets within sets, which stand no deeper than the document lets them. */
        private int ready(int thing, int level) {
            if (thing < 0 || level > DEEPEST) {
                return 0;
            }
            int held = cells[HELD + thing];
            boolean lonely = cells[PARTNER + thing] < 0;
            switch (cells[KIND + thing]) {
                case READING: return (held > 0 ? IN : 0) | (lonely ? ENDED : 0);
                case WRITING: return lonely ? BROKEN : held < cells[ROOM + thing] ? OUT : 0;
                case COUNTER: return (held > 0 ? IN : 0) | (held < MOST_HELD ? OUT : 0);
                case TIMER:
                case LISTENER: return held > 0 ? IN : 0;
                default: break;
            }
            int count = cells[COUNT];
            for (int i = 0; i < count; i++) {
                if (cells[OWNER + i] == thing && cells[LISTED_SINCE + i] >= 0 && cells[ARMED + i] != 0) {
                    int bits = cells[MASK + i] | ENDED | BROKEN;
                    if ((bits & ready(cells[AIM + i], level + 1)) != 0) {
                        return IN;
                    }
                }
            }
            return 0;
        }

        void putOnList(int i) {
            if (cells[LISTED_SINCE + i] < 0) {
                cells[LISTED_SINCE + i] = cells[STAMP]++;
                cells[LEFT + i] = 0;
            }
        }

        void takeOffList(int i) {
            cells[LISTED_SINCE + i] = NONE;
            cells[LEFT + i] = 0;
        }

        int firstListed(int set) {
            int count = cells[COUNT];
            int best = NONE;
            for (int i = 0; i < count; i++) {
                if (cells[OWNER + i] == set && cells[LISTED_SINCE + i] >= 0
                        && (best < 0 || cells[LISTED_SINCE + i] < cells[LISTED_SINCE + best])) {
                    best = i;
                }
            }
            return best;
        }

        int placeOf(int i) {
            return cells[LISTED_SINCE + i] < 0 ? NONE : aheadOf(i, false);
        }

        private int aheadOf(int i, boolean onlyTrue) {
            int count = cells[COUNT];
            int n = 0;
            for (int j = 0; j < count; j++) {
                boolean ahead = cells[OWNER + j] == cells[OWNER + i] && cells[LISTED_SINCE + j] >= 0
                        && cells[LISTED_SINCE + j] < cells[LISTED_SINCE + i];
                if (ahead && (!onlyTrue || tells(j) != 0)) {
                    n++;
                }
            }
            return n;
        }

        int listedBy(int set) {
            int count = cells[COUNT];
            int n = 0;
            for (int i = 0; i < count; i++) {
                if (cells[OWNER + i] == set && cells[LISTED_SINCE + i] >= 0) {
                    n++;
                }
            }
            return n;
        }

        private boolean isShown(int i, int set) {
            return cells[OWNER + i] == set && cells[LISTED_SINCE + i] >= 0 && tells(i) != 0;
        }

        int shownBy(int set) {
            int count = cells[COUNT];
            int n = 0;
            for (int i = 0; i < count; i++) {
                if (isShown(i, set)) {
                    n++;
                }
            }
            return n;
        }

        int showing(int set, int place) {
            int count = cells[COUNT];
            for (int i = 0; i < count; i++) {
                if (isShown(i, set) && aheadOf(i, true) == place) {
                    return i;
                }
            }
            return NONE;
        }

        /** Whether one is TRUE that was listed ahead of the stamp. */
        boolean showsOlder(int set, int stamp) {
            int count = cells[COUNT];
            for (int i = 0; i < count; i++) {
                if (cells[OWNER + i] == set && cells[LISTED_SINCE + i] >= 0 && cells[LISTED_SINCE + i] < stamp
                        && cells[ARMED + i] != 0 && (bitsOf(i) & ready(cells[AIM + i], 0)) != 0) {
                    return true;
                }
            }
            return false;
        }

        void countLeft(int set) {
            int count = cells[COUNT];
            for (int i = 0; i < count; i++) {
                if (cells[OWNER + i] == set && cells[LISTED_SINCE + i] >= 0) {
                    cells[LEFT + i]++;
                }
            }
        }

        private int deepBelow(int set, int level) {
            int count = cells[COUNT];
            int most = 1;
            for (int i = 0; i < count && level < DEEPEST; i++) {
                if (cells[OWNER + i] == set && cells[KIND + cells[AIM + i]] == SET) {
                    most = Math.max(most, 1 + deepBelow(cells[AIM + i], level + 1));
                }
            }
            return most;
        }

        private int deepAbove(int set, int level) {
            int count = cells[COUNT];
            int most = 1;
            for (int i = 0; i < count && level < DEEPEST; i++) {
                if (cells[AIM + i] == set) {
                    most = Math.max(most, 1 + deepAbove(cells[OWNER + i], level + 1));
                }
            }
            return most;
        }
    }

    /** The tasks: who sleeps where, what they got, and their programs. */
    private static final class Tasks {
        private final int[] cells;

        Tasks(int[] cells) {
            this.cells = cells;
        }

        int asleep() {
            int bits = 0;
            for (int t = 0; t < TASKS; t++) {
                if (cells[SLEEPS_AT + t] >= 0) {
                    bits |= 1 << t;
                }
            }
            return bits;
        }

        int sleepersAt(int set) {
            int n = 0;
            for (int t = 0; t < TASKS; t++) {
                if (cells[SLEEPS_AT + t] == set) {
                    n++;
                }
            }
            return n;
        }

        int firstSleeper(int set) {
            int best = NONE;
            for (int t = 0; t < TASKS; t++) {
                if (cells[SLEEPS_AT + t] == set && (best < 0 || cells[SLEEPS_SINCE + t] < cells[SLEEPS_SINCE + best])) {
                    best = t;
                }
            }
            return best;
        }

        int sleeping(int set, int place) {
            for (int t = 0; t < TASKS; t++) {
                if (cells[SLEEPS_AT + t] == set && sleepersAhead(t) == place) {
                    return t;
                }
            }
            return NONE;
        }

        private int sleepersAhead(int task) {
            int n = 0;
            for (int t = 0; t < TASKS; t++) {
                if (cells[SLEEPS_AT + t] == cells[SLEEPS_AT + task] && cells[SLEEPS_SINCE + t] < cells[SLEEPS_SINCE + task]) {
                    n++;
                }
            }
            return n;
        }

        void fallAsleep(int task, int set, int up, int within) {
            cells[SLEEPS_AT + task] = set;
            cells[SLEEPS_SINCE + task] = cells[STAMP]++;
            cells[UP + task] = up;
            cells[UNTIL + task] = within == 0 ? NONE : cells[TIME] + within;
        }

        void getUp(int task) {
            cells[SLEEPS_AT + task] = NONE;
            cells[UNTIL + task] = NONE;
        }

        /** Up without being WOKEN: the time was over, or the set is GONE. */
        void giveUp(int task) {
            getUp(task);
            cells[LATEST + task] = 0;
            cells[LOST + task]++;
        }

        void dismissFrom(int set) {
            for (int t = 0; t < TASKS; t++) {
                if (cells[SLEEPS_AT + t] == set) {
                    giveUp(t);
                }
            }
        }

        void dismissLate() {
            for (int t = 0; t < TASKS; t++) {
                if (cells[SLEEPS_AT + t] >= 0 && cells[UNTIL + t] == cells[TIME]) {
                    giveUp(t);
                }
            }
        }

        boolean canGo(int task) {
            return cells[SLEEPS_AT + task] < 0 && cells[STEPS_LEFT + task] > 0;
        }

        int putStep(int task, int operation, int a, int b) {
            int left = cells[STEPS_LEFT + task];
            if (left >= STEPS) {
                return NONE;
            }
            int at = task * STEPS + left;
            cells[OPERATION + at] = operation;
            cells[FIRST + at] = a;
            cells[SECOND + at] = b;
            cells[STEPS_LEFT + task] = left + 1;
            return left + 1;
        }

        /** The first step leaves its place, or goes behind the others. */
        void turnProgram(int task) {
            turnColumn(OPERATION, task);
            turnColumn(FIRST, task);
            turnColumn(SECOND, task);
            if (cells[GOES_ROUND + task] == 0 && cells[STEPS_LEFT + task] > 0) {
                cells[STEPS_LEFT + task]--;
            }
        }

        private void turnColumn(int column, int task) {
            int at = column + task * STEPS;
            int last = cells[STEPS_LEFT + task] - 1;
            int first = cells[at];
            for (int k = 0; k < last && k < STEPS - 1; k++) {
                cells[at + k] = cells[at + k + 1];
            }
            if (last >= 0 && last < STEPS) {
                cells[at + last] = first;
            }
        }
    }

    /** What happens in a house: notices, sets that are called, tasks that are woken, steps that are done. */
    private static final class House {
        final Things things;
        final Interests interests;
        final Tasks tasks;
        private final int[] cells;
        /** Those that a task puts on the list again when it is through. */
        private final int[] again;
        /** What was met since the house became as another: sets that were called or where one was woken, tasks. */
        private int called;
        private int woken;
        int fed;

        House(int[] cells) {
            this.cells = cells;
            things = new Things(cells);
            interests = new Interests(cells);
            tasks = new Tasks(cells);
            again = new int[MOST_GOT];
        }

        void become(int[] from) {
            System.arraycopy(from, 0, cells, 0, SIZE);
            called = 0;
            woken = 0;
            fed = 0;
        }

        int time() {
            return cells[TIME];
        }

        boolean hasWokenAt(int set) {
            return (woken & 1 << set) != 0;
        }

        int calledHandles() {
            int bits = 0;
            for (int h = HANDLES - 1; h >= 0; h--) {
                int thing = cells[NAMES + h];
                if (thing >= 0 && (called & 1 << thing) != 0 && things.lowestHandle(thing) == h) {
                    bits |= 1 << h;
                }
            }
            return bits;
        }

        int makeNamed(int kind) {
            int handle = things.freeHandle();
            int thing = handle < 0 ? NONE : things.makeThing(kind);
            if (thing < 0) {
                return NONE;
            }
            things.giveName(handle, thing);
            return handle;
        }

        int makePipe(int room) {
            if (!between(room, 1, MOST_ROOM) || things.freeHandles() < 2) {
                return NONE;
            }
            int reading = things.makeEnds(room);
            if (reading < 0) {
                return NONE;
            }
            int handle = things.freeHandle();
            things.giveName(handle, reading);
            things.giveName(things.freeHandle(), cells[PARTNER + reading]);
            return handle;
        }

        int connectTo(int handle) {
            int listener = things.thingOfKind(handle, LISTENER);
            int made = things.freeHandle();
            if (listener < 0 || made < 0) {
                return NONE;
            }
            if (cells[HELD + listener] >= cells[BACKLOG + listener] || things.waitingInAll() >= WAITING) {
                return REFUSED;
            }
            int reading = things.makeEnds(cells[ROOM + listener]);
            if (reading < 0) {
                return NONE;
            }
            cells[WAITS_AT + reading] = listener;
            cells[WAITS_SINCE + reading] = cells[STAMP]++;
            cells[HELD + listener]++;
            things.giveName(made, cells[PARTNER + reading]);
            sendNotice(listener, IN, 0);
            return made;
        }

        int acceptFrom(int handle) {
            int listener = things.thingOfKind(handle, LISTENER);
            int made = things.freeHandle();
            if (listener < 0 || made < 0) {
                return NONE;
            }
            int reading = things.longestWaiting(listener);
            if (reading < 0) {
                return REFUSED;
            }
            cells[WAITS_AT + reading] = NONE;
            cells[HELD + listener]--;
            things.giveName(made, reading);
            return made;
        }

        boolean closeHandle(int handle) {
            int thing = things.thingOf(handle);
            if (thing < 0) {
                return false;
            }
            things.giveName(handle, NONE);
            if (things.lowestHandle(thing) >= 0) {
                return true;
            }
            int kind = cells[KIND + thing];
            int partner = cells[PARTNER + thing];
            interests.removeAllOf(thing);
            tasks.dismissFrom(thing);
            for (int k = 0; k < WAITING && kind == LISTENER; k++) {
                int end = things.longestWaiting(thing);
                if (end < 0) {
                    break;
                }
                int farEnd = cells[PARTNER + end];
                things.remove(end);
                sendNotice(farEnd, BROKEN, 0);
            }
            things.remove(thing);
            sendNotice(partner, kind == WRITING ? ENDED : BROKEN, 0);
            return true;
        }

        int writeTo(int handle, int n) {
            int thing = things.thingOf(handle);
            if (thing < 0 || !between(n, 1, MOST_BYTES)) {
                return NONE;
            }
            int held = cells[HELD + thing];
            if (cells[KIND + thing] == COUNTER) {
                if (held + n > MOST_HELD) {
                    return 0;
                }
                cells[HELD + thing] = held + n;
                sendNotice(thing, IN, 0);
                return n;
            }
            if (cells[KIND + thing] != WRITING) {
                return NONE;
            }
            if (cells[PARTNER + thing] < 0) {
                return REFUSED;
            }
            int written = Math.min(n, cells[ROOM + thing] - held);
            if (written <= 0) {
                return 0;
            }
            things.setHeld(thing, held + written);
            sendNotice(cells[PARTNER + thing], IN, 0);
            return written;
        }

        int readFrom(int handle, int n) {
            int thing = things.thingOf(handle);
            int kind = thing < 0 ? NONE : cells[KIND + thing];
            if (!between(n, 1, MOST_BYTES) || kind != READING && kind != COUNTER && kind != TIMER) {
                return NONE;
            }
            int partner = cells[PARTNER + thing];
            int held = cells[HELD + thing];
            int most = kind == READING ? n : cells[BY_ONES + thing] != 0 ? 1 : MOST_HELD;
            int taken = Math.min(most, held);
            if (taken <= 0) {
                return kind == READING && partner < 0 ? REFUSED : 0;
            }
            things.setHeld(thing, held - taken);
            if (kind == READING) {
                sendNotice(partner, OUT, 0);
            } else if (kind == COUNTER) {
                sendNotice(thing, OUT, 0);
            }
            return taken;
        }

        boolean armTimer(int handle, int first, int every) {
            int thing = things.thingOfKind(handle, TIMER);
            if (thing < 0 || !between(first, 0, LONGEST) || !between(every, 0, LONGEST)) {
                return false;
            }
            cells[HELD + thing] = 0;
            cells[NEXT + thing] = first == 0 ? NONE : cells[TIME] + first;
            cells[EVERY + thing] = every;
            return true;
        }

        void passTime() {
            int now = ++cells[TIME];
            for (int h = 0; h < HANDLES; h++) {
                int thing = cells[NAMES + h];
                if (thing >= 0 && cells[KIND + thing] == TIMER && cells[NEXT + thing] == now) {
                    cells[HELD + thing] = Math.min(MOST_HELD, cells[HELD + thing] + 1);
                    cells[NEXT + thing] = cells[EVERY + thing] == 0 ? NONE : now + cells[EVERY + thing];
                    sendNotice(thing, IN, 0);
                }
            }
            tasks.dismissLate();
        }

        int findInterest(int set, int handle) {
            int owner = things.thingOfKind(set, SET);
            int thing = things.thingOf(handle);
            return owner < 0 || thing < 0 ? NONE : interests.find(owner, handle, thing);
        }

        int addInterest(int set, int handle, int mask, int how) {
            int owner = things.thingOfKind(set, SET);
            int thing = things.thingOf(handle);
            if (owner < 0 || thing < 0 || owner == thing || !between(mask, 0, MOST_MASK) || !between(how, 0, MOST_HOW)) {
                return NONE;
            }
            if (interests.find(owner, handle, thing) >= 0) {
                return REFUSED;
            }
            // A ring would be too deep as well: both sums count the two sets already.
            if (cells[KIND + thing] == SET && interests.deepAbove(owner, 1) + interests.deepBelow(thing, 1) > DEEPEST) {
                return TOO_DEEP;
            }
            int i = interests.append(owner, handle, thing, mask, how);
            if (i < 0) {
                return TOO_MANY;
            }
            armInterest(i);
            return interests.heldBy(owner);
        }

        boolean armInterest(int i) {
            if (i < 0) {
                return false;
            }
            cells[ARMED + i] = 1;
            if (interests.tells(i) != 0) {
                int owner = cells[OWNER + i];
                interests.putOnList(i);
                callSleepers(owner);
                sendNotice(owner, IN, 1);
            }
            return true;
        }

        /** The level counts the sets that the notice has climbed, no more than stand in one another. */
        private void sendNotice(int thing, int bit, int level) {
            if (thing < 0 || level > DEEPEST) {
                return;
            }
            boolean served = false;
            int count = cells[COUNT];
            for (int i = 0; i < count; i++) {
                boolean alone = (cells[HOW + i] & ALONE) != 0;
                if (cells[AIM + i] != thing || !interests.heeds(i, bit) || alone && served) {
                    continue;
                }
                interests.putOnList(i);
                cells[NOTICED + i]++;
                boolean someGot = callSleepers(cells[OWNER + i]);
                sendNotice(cells[OWNER + i], IN, level + 1);
                served |= alone && someGot;
            }
        }

        /** Whether the first sleeper got some; those behind it are woken as long as there is more to get. */
        private boolean callSleepers(int set) {
            called |= 1 << set;
            boolean firstGot = false;
            for (int turn = 0; turn < TASKS; turn++) {
                int task = tasks.firstSleeper(set);
                if (task < 0) {
                    break;
                }
                woken |= 1 << set;
                int stamp = cells[STAMP];
                if (gather(task, set, cells[UP + task]) == 0) {
                    cells[WOKEN_EMPTY + task]++;
                    break;
                }
                tasks.getUp(task);
                cells[WOKEN_FED + task]++;
                fed |= 1 << task;
                firstGot = true;
                if (!interests.showsOlder(set, stamp)) {
                    break;
                }
            }
            return firstGot;
        }

        private int gather(int task, int set, int up) {
            int n = 0;
            int kept = 0;
            for (int turn = 0; turn < INTERESTS && n < up && n < MOST_GOT; turn++) {
                int i = interests.firstListed(set);
                if (i < 0) {
                    break;
                }
                interests.takeOffList(i);
                int bits = cells[ARMED + i] == 0 ? 0 : interests.bitsOf(i) & interests.ready(cells[AIM + i], 0);
                if (bits == 0) {
                    continue;
                }
                cells[GOT_NUMBER + task * MOST_GOT + n] = cells[NUMBER + i];
                cells[GOT_BITS + task * MOST_GOT + n] = bits;
                n++;
                cells[TAKEN + i]++;
                if ((cells[HOW + i] & ONCE) != 0) {
                    cells[ARMED + i] = 0;
                } else if ((cells[HOW + i] & EDGE) == 0) {
                    again[kept++] = i;
                }
            }
            interests.countLeft(set);
            for (int k = 0; k < kept; k++) {
                interests.putOnList(again[k]);
            }
            cells[LATEST + task] = n;
            cells[TOTAL + task] += n;
            return n;
        }

        private boolean canGather(int task, int set, int up) {
            return isTask(task) && cells[SLEEPS_AT + task] < 0 && set >= 0 && between(up, 1, MOST_GOT);
        }

        int collectAt(int task, int handle, int up) {
            int set = things.thingOfKind(handle, SET);
            return canGather(task, set, up) ? gather(task, set, up) : NONE;
        }

        int awaitAt(int task, int handle, int up, int within) {
            int set = things.thingOfKind(handle, SET);
            if (!canGather(task, set, up) || !between(within, 0, LONGEST)) {
                return NONE;
            }
            int n = gather(task, set, up);
            if (n == 0) {
                tasks.fallAsleep(task, set, up, within);
                return REFUSED;
            }
            return n;
        }

        int goOneRound() {
            int done = 0;
            for (int t = 0; t < TASKS; t++) {
                if (tasks.canGo(t)) {
                    doStep(t);
                    done++;
                }
            }
            return done;
        }

        /** For a task that can go. */
        int doStep(int task) {
            int at = task * STEPS;
            int operation = cells[OPERATION + at];
            int a = cells[FIRST + at];
            int b = cells[SECOND + at];
            tasks.turnProgram(task);
            switch (operation) {
                case DO_WRITE: return writeTo(a, b);
                case DO_READ: return readFrom(a, b);
                case DO_COLLECT: return collectAt(task, a, b);
                case DO_AWAIT: return awaitAt(task, a, b, 0);
                case DO_CLOSE: return closeHandle(a) ? 1 : 0;
                case DO_REARM: return armInterest(findInterest(a, b)) ? 1 : 0;
                case DO_ACCEPT: return acceptFrom(a);
                case DO_CONNECT: return connectTo(a);
                default: return NONE;
            }
        }
    }

    /** The acts that can be taken back or done again: how all was behind each of the latest ones. */
    private static final class Past {
        private static final int ROWS = MOST_ACTS + 1;
        private final int[] rows;
        private int now;
        int behind;
        int ahead;

        Past() {
            rows = new int[ROWS * SIZE];
            now = 0;
            behind = 0;
            ahead = 0;
        }

        void restart(int[] cells) {
            behind = 0;
            ahead = 0;
            System.arraycopy(cells, 0, rows, now * SIZE, SIZE);
        }

        void keep(int[] cells) {
            now = (now + 1) % ROWS;
            behind = Math.min(MOST_ACTS, behind + 1);
            ahead = 0;
            System.arraycopy(cells, 0, rows, now * SIZE, SIZE);
        }

        boolean goBack(int[] cells) {
            if (behind == 0) {
                return false;
            }
            now = (now + ROWS - 1) % ROWS;
            behind--;
            ahead++;
            System.arraycopy(rows, now * SIZE, cells, 0, SIZE);
            return true;
        }

        boolean goForth(int[] cells) {
            if (ahead == 0) {
                return false;
            }
            now = (now + 1) % ROWS;
            behind++;
            ahead--;
            System.arraycopy(rows, now * SIZE, cells, 0, SIZE);
            return true;
        }
    }

    /** All orders in which two tasks can go on, tried one by one in a house of their own. */
    private static final class Paths {
        private static final int LONGEST_PATH = 2 * STEPS;
        private static final int ORDERS = 0;
        private static final int ASLEEP = 1;
        private static final int MISSING = 2;
        private static final int FEWEST = 3;
        private static final int MOST = 4;
        private static final int TALLIES = 5;
        private final House trial;
        private final int[] cells;
        private final int[] rows;
        private final int[] tally;
        private int one;
        private int two;
        private int gotBefore;

        Paths(House trial, int[] cells) {
            this.trial = trial;
            this.cells = cells;
            rows = new int[LONGEST_PATH * SIZE];
            tally = new int[TALLIES];
        }

        void begin(int task, int other) {
            one = task;
            two = other;
            gotBefore = cells[TOTAL + one] + cells[TOTAL + two];
            for (int what = 0; what < TALLIES; what++) {
                tally[what] = 0;
            }
        }

        int tallyOf(int what) {
            return what >= 0 && what < TALLIES ? tally[what] : NONE;
        }

        private void explore(int level) {
            boolean went = false;
            for (int turn = 0; turn < 2 && level < LONGEST_PATH; turn++) {
                int task = turn == 0 ? one : two;
                if (trial.tasks.canGo(task)) {
                    went = true;
                    System.arraycopy(cells, 0, rows, level * SIZE, SIZE);
                    trial.doStep(task);
                    explore(level + 1);
                    System.arraycopy(rows, level * SIZE, cells, 0, SIZE);
                }
            }
            if (!went) {
                countEnd();
            }
        }

        private void countEnd() {
            int gotten = cells[TOTAL + one] + cells[TOTAL + two] - gotBefore;
            tally[FEWEST] = tally[ORDERS] == 0 ? gotten : Math.min(tally[FEWEST], gotten);
            tally[MOST] = Math.max(tally[MOST], gotten);
            tally[ORDERS]++;
            if (cells[SLEEPS_AT + one] >= 0 || cells[SLEEPS_AT + two] >= 0) {
                tally[ASLEEP]++;
            }
            if (missesSome(one) || missesSome(two)) {
                tally[MISSING]++;
            }
        }

        private boolean missesSome(int task) {
            int set = cells[SLEEPS_AT + task];
            return set >= 0 && trial.interests.ready(set, 0) != 0;
        }
    }
}
