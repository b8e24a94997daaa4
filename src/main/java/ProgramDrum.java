/**
 * A drum on which orders stand at places that come by one after the other: an order is read when
 * its place comes by, works for some ticks, and goes on to its next order, which must be waited for.
 */
public final class ProgramDrum {
    public static final int NONE = -1;

    private static final int TOLD = 0;
    private static final int FORGED = 1;
    private static final int TOO_LONG = 2;
    private static final int MISSING = 3;

    // what change() changes, by its number
    private static final int NEXT = 2;
    private static final int BRIBE = 4;

    private static final int FIRST_PLACES = 12;
    private static final int MIN_PLACES = 6;
    private static final int MAX_PLACES = 40;
    private static final int MAX_ORDERS = 16;
    private static final int AUTHORS = 4;
    private static final int MAX_WORK = 9;
    private static final int MAX_BRIBE = 99;
    private static final int MAX_READS = 99;
    private static final int MAX_TURN = 99;
    private static final int MAX_CODE = 255;
    private static final int MAX_TEXT = 160;
    private static final int MAX_REMEMBERED = 14;
    private static final int SLOTS = 2;
    private static final int MAX_COMMANDS = 3;
    private static final int COMMAND_SIZE = 100000;
    private static final int MAX_SIMULATED = 50;
    private static final int MAX_TOLD_REFUND = 999;

    // All rows are made once, here: the calls themselves make no objects.
    private final Text text = new Text();
    private final State now = new State();
    private final State trial = new State();
    private final State probe = new State();
    private final Memory memory = new Memory();
    private final State[] slots = {new State(), new State()};
    private final boolean[] saved = new boolean[SLOTS];

    public ProgramDrum() {
    }

    // ---- text

    public int append(int c) throws IllegalArgumentException, IllegalStateException {
        if (c < 0 || c > MAX_CODE) {
            throw new IllegalArgumentException("no character code");
        }
        if (text.isFull()) {
            throw new IllegalStateException("the text is full");
        }
        return text.add(c);
    }

    public int clearText() {
        return text.empty();
    }

    public int errorPosition() {
        return text.firstError();
    }

    public int load() throws IllegalStateException {
        if (text.firstError() != NONE) {
            throw new IllegalStateException("the text is not a program");
        }
        text.fill(now);
        memory.forget();
        for (int slot = 0; slot < SLOTS; slot++) {
            saved[slot] = false;
        }
        return now.count;
    }

    // ---- what there is

    public int about(int what) throws IllegalArgumentException {
        switch (what) {
            case 0:
                return now.places;
            case 1:
                return now.count;
            case 2:
                return now.tick;
            case 3:
                return now.around(now.tick);
            case 4:
                return now.laidOrders();
            case 5:
                return sum(now.paid);
            case 6:
                return sum(now.refunded);
            case 7:
                return sum(now.open);
            case 8:
                return now.jumps.size;
            case 9:
                return now.lastEnd;
            default:
                throw new IllegalArgumentException("what is not 0 to 9");
        }
    }

    public int order(int o, int what) throws IndexOutOfBoundsException, IllegalArgumentException {
        if (!now.has(o)) {
            throw new IndexOutOfBoundsException("no such order");
        }
        switch (what) {
            case 0:
                return now.author[o];
            case 1:
                return now.work[o];
            case 2:
                return now.next[o];
            case 3:
                return now.expects[o];
            case 4:
                return now.bribe[o];
            case 5:
                return now.place[o];
            case 6:
                return now.delay[o];
            case 7:
                return now.open[o];
            case 8:
                return now.lastWait[o];
            default:
                throw new IllegalArgumentException("what is not 0 to 8");
        }
    }

    public int author(int a, int what) throws IndexOutOfBoundsException, IllegalArgumentException {
        if (!isAuthor(a)) {
            throw new IndexOutOfBoundsException("no such author");
        }
        switch (what) {
            case 0:
                return now.ordersOf(a);
            case 1:
                return now.paid[a];
            case 2:
                return now.refunded[a];
            default:
                throw new IllegalArgumentException("what is not 0 to 2");
        }
    }

    public int at(int place) throws IndexOutOfBoundsException {
        if (!now.hasPlace(place)) {
            throw new IndexOutOfBoundsException("no such place");
        }
        return now.orderOn(place);
    }

    public int jump(int i, int what) throws IllegalArgumentException {
        if (i < 0 || what < 0 || what > 2) {
            throw new IllegalArgumentException("no such number of a jump");
        }
        return now.jumps.number(i, what);
    }

    public int chain(int o) throws IndexOutOfBoundsException {
        if (!now.has(o)) {
            throw new IndexOutOfBoundsException("no such order");
        }
        return now.chainLength(o);
    }

    public int ring(int o) throws IndexOutOfBoundsException {
        if (!now.has(o)) {
            throw new IndexOutOfBoundsException("no such order");
        }
        return now.ringLength(o);
    }

    // ---- actions

    public int setDrum(int places) throws IllegalArgumentException {
        if (places < MIN_PLACES || places > MAX_PLACES) {
            throw new IllegalArgumentException("no such number of places");
        }
        memory.remember(now);
        int previous = now.places;
        now.takeAllOff();
        now.places = places;
        return previous;
    }

    public int addOrder(int author, int work, int next, int expects, int bribe)
            throws IllegalArgumentException, IllegalStateException {
        if (!isAuthor(author) || !isWork(work) || !isLink(next) || !isLink(expects) || !isBribe(bribe)) {
            throw new IllegalArgumentException("a number of the order is out of its range");
        }
        if (now.count >= MAX_ORDERS) {
            throw new IllegalStateException("there are 16 orders");
        }
        memory.remember(now);
        return now.addNew(author, work, next, expects, bribe);
    }

    public int change(int o, int what, int v) throws IndexOutOfBoundsException, IllegalArgumentException {
        if (!now.has(o)) {
            throw new IndexOutOfBoundsException("no such order");
        }
        if (!isNumberOfOrder(what, v)) {
            throw new IllegalArgumentException("what or v is out of its range");
        }
        memory.remember(now);
        return now.replace(o, what, v);
    }

    public int move(int o, int place) throws IndexOutOfBoundsException, IllegalStateException {
        if (!now.has(o) || !now.hasPlace(place)) {
            throw new IndexOutOfBoundsException("no such order or place");
        }
        if (!now.isFreeFor(o, place)) {
            throw new IllegalStateException("another order stands there");
        }
        memory.remember(now);
        return now.put(o, place);
    }

    public int lay() {
        memory.remember(now);
        return now.layAll();
    }

    public int run(int o) throws IndexOutOfBoundsException {
        if (!now.has(o)) {
            throw new IndexOutOfBoundsException("no such order");
        }
        memory.remember(now);
        return now.runFrom(o);
    }

    public int turn(int ticks) throws IllegalArgumentException {
        if (!isTurn(ticks)) {
            throw new IllegalArgumentException("ticks is not 1 to 99");
        }
        memory.remember(now);
        now.tick += ticks;
        return now.around(now.tick);
    }

    public int undo() throws IllegalStateException {
        if (memory.size < 1) {
            throw new IllegalStateException("no state is remembered");
        }
        memory.bringBack(now);
        return memory.size;
    }

    // ---- what would be

    public int waits(int o) throws IndexOutOfBoundsException {
        if (!now.has(o)) {
            throw new IndexOutOfBoundsException("no such order");
        }
        return now.waitFor(o);
    }

    public int time(int o) throws IndexOutOfBoundsException {
        if (!now.has(o)) {
            throw new IndexOutOfBoundsException("no such order");
        }
        return ticksOfRun(now, o);
    }

    public int bestPlace(int o, int start) throws IndexOutOfBoundsException {
        if (!now.has(o) || !now.has(start)) {
            throw new IndexOutOfBoundsException("no such order");
        }
        trial.copyFrom(now);
        int best = NONE;
        int leastTicks = 0;
        for (int place = 0; place < now.places; place++) {
            if (now.isFreeFor(o, place)) {
                trial.place[o] = place;
                int ticks = ticksOfRun(trial, start);
                if (best == NONE || ticks < leastTicks) {
                    best = place;
                    leastTicks = ticks;
                }
            }
        }
        return best;
    }

    public int leastBribe(int o) throws IndexOutOfBoundsException {
        if (!now.has(o)) {
            throw new IndexOutOfBoundsException("no such order");
        }
        trial.copyFrom(now);
        for (int bribe = 0; bribe <= MAX_BRIBE; bribe++) {
            trial.bribe[o] = bribe;
            trial.layAll();
            if (trial.delay[o] == 0) {
                return bribe;
            }
        }
        return NONE;
    }

    public int saves(int start) throws IndexOutOfBoundsException {
        if (!now.has(start)) {
            throw new IndexOutOfBoundsException("no such order");
        }
        trial.copyFrom(now);
        trial.layAll();
        return ticksOfRun(now, start) - ticksOfRun(trial, start);
    }

    // ---- scripts, simulations

    public int runScript(int n, long script) throws IllegalArgumentException {
        if (n < 1 || n > MAX_COMMANDS || script < 0 || withoutLast(n, script) > 0) {
            throw new IllegalArgumentException("no such script");
        }
        trial.copyFrom(now);
        for (int i = 0; i < n; i++) {
            int command = (int) (withoutLast(n - 1 - i, script) % COMMAND_SIZE);
            if (!succeeds(command)) {
                return i;
            }
        }
        return NONE;
    }

    public int simulate(long seed, int m) throws IllegalArgumentException {
        if (m < 1 || m > MAX_SIMULATED) {
            throw new IllegalArgumentException("m is not 1 to 50");
        }
        trial.copyFrom(now);
        long x = seed;
        int told = 0;
        for (int i = 0; i < m; i++) {
            x = x * 6364136223846793005L + 1442695040888963407L;
            if (simulateRun((int) (x >>> 33)) == TOLD) {
                told++;
            }
        }
        int refund = sum(trial.refunded) - sum(now.refunded);
        return 1000 * told + Math.min(refund, MAX_TOLD_REFUND);
    }

    // ---- save slots

    public int save(int slot) throws IndexOutOfBoundsException {
        if (!isSlot(slot)) {
            throw new IndexOutOfBoundsException("no such save slot");
        }
        State kept = slots[slot];
        if (kept != null) {
            kept.copyFrom(now);
            saved[slot] = true;
        }
        return now.count;
    }

    public int restore(int slot) throws IndexOutOfBoundsException, IllegalStateException {
        if (!isSlot(slot)) {
            throw new IndexOutOfBoundsException("no such save slot");
        }
        State kept = slots[slot];
        if (kept == null || !saved[slot]) {
            throw new IllegalStateException("nothing has been saved in this slot");
        }
        now.copyFrom(kept);
        memory.forget();
        return now.count;
    }

    // ---- the ranges of numbers

    private static boolean isAuthor(int v) {
        return v >= 0 && v < AUTHORS;
    }

    private static boolean isWork(int v) {
        return v >= 1 && v <= MAX_WORK;
    }

    private static boolean isLink(int v) {
        return v == NONE || v >= 0 && v < MAX_ORDERS;
    }

    private static boolean isBribe(int v) {
        return v >= 0 && v <= MAX_BRIBE;
    }

    private static boolean isTurn(int v) {
        return v >= 1 && v <= MAX_TURN;
    }

    private boolean isSlot(int v) {
        return v >= 0 && v < slots.length && v < saved.length;
    }

    private static boolean isNumberOfOrder(int what, int v) {
        switch (what) {
            case 0:
                return isAuthor(v);
            case 1:
                return isWork(v);
            case 2:
            case 3:
                return isLink(v);
            case 4:
                return isBribe(v);
            default:
                return false;
        }
    }

    private static int sum(int[] row) {
        int sum = 0;
        for (int i = 0; i < row.length; i++) {
            sum += row[i];
        }
        return sum;
    }

    // ---- trials

    /** By how many ticks a run from the order o would move the tick of the state, which stays. */
    private int ticksOfRun(State state, int o) {
        probe.copyFrom(state);
        probe.runFrom(o);
        return probe.tick - state.tick;
    }

    /** The script without its last commands. */
    private static long withoutLast(int commands, long script) {
        long rest = script;
        for (int i = 0; i < commands; i++) {
            rest /= COMMAND_SIZE;
        }
        return rest;
    }

    /** Carries out a command of a script, five digits, on the trial. */
    private boolean succeeds(int command) {
        int o = command / 100 % 100;
        int last = command % 100;
        switch (command / 10000) {
            case 1:
                return last == 0 && runsOnTrial(o);
            case 2:
                if (o != 0 || last != 0) {
                    return false;
                }
                trial.layAll();
                return true;
            case 3:
                return movesOnTrial(o, last);
            case 4:
                return o == 0 && turnsOnTrial(last);
            case 5:
                return changesOnTrial(o, BRIBE, last);
            case 6:
                return changesOnTrial(o, NEXT, last == 99 ? NONE : last);
            case 7:
                return isSoonOnTrial(o, last);
            case 8:
                return isShortOnTrial(o, 10 * last);
            case 9:
                return isCheapOnTrial(command / 1000 % 10, command % 1000);
            default:
                return false;
        }
    }

    private boolean runsOnTrial(int o) {
        if (!trial.has(o)) {
            return false;
        }
        trial.runFrom(o);
        return true;
    }

    private boolean movesOnTrial(int o, int place) {
        if (!trial.has(o) || !trial.hasPlace(place) || !trial.isFreeFor(o, place)) {
            return false;
        }
        trial.put(o, place);
        return true;
    }

    private boolean turnsOnTrial(int ticks) {
        if (!isTurn(ticks)) {
            return false;
        }
        trial.tick += ticks;
        return true;
    }

    private boolean changesOnTrial(int o, int what, int v) {
        if (!trial.has(o) || !isNumberOfOrder(what, v)) {
            return false;
        }
        trial.replace(o, what, v);
        return true;
    }

    private boolean isSoonOnTrial(int o, int ticks) {
        return trial.isOnDrum(o) && trial.waitFor(o) <= ticks;
    }

    private boolean isShortOnTrial(int o, int ticks) {
        if (!trial.has(o)) {
            return false;
        }
        probe.copyFrom(trial);
        return probe.runFrom(o) == TOLD && probe.tick - trial.tick <= ticks;
    }

    private boolean isCheapOnTrial(int author, int refund) {
        return isAuthor(author) && trial.refunded[author] <= refund;
    }

    /** Simulates a run on the trial as the random number r tells; returns how it ends, NONE without orders. */
    private int simulateRun(int r) {
        int count = trial.count;
        if (count < 1 || r < 0) {
            return NONE;
        }
        trial.replace(r / 16 % count, BRIBE, r / 1024 % 100);
        if (r % 4 == 0) {
            trial.layAll();
        }
        return trial.runFrom(r / 256 % count);
    }

    /** The text buffer: every character of a program has its meaning by its index alone. */
    private static final class Text {
        private static final int HEAD = 3;
        private static final int ORDER_SIZE = 9;
        private static final int MAX_PROGRAM = HEAD + MAX_ORDERS * ORDER_SIZE;

        private final int[] codes = new int[MAX_TEXT];
        private int length;

        boolean isFull() {
            return length >= codes.length;
        }

        int add(int code) {
            if (length >= 0 && length < codes.length) {
                codes[length] = code;
                length++;
            }
            return length;
        }

        int empty() {
            int previous = length;
            length = 0;
            return previous;
        }

        int firstError() {
            for (int i = 0; i < length; i++) {
                if (!isAllowed(i)) {
                    return i;
                }
            }
            boolean endsBetweenOrders = length >= HEAD && (length - HEAD) % ORDER_SIZE == 0;
            return endsBetweenOrders ? NONE : length;
        }

        /** Whether the character with the index i is allowed, all those before it being so. */
        private boolean isAllowed(int i) {
            int c = code(i);
            if (i < HEAD) {
                return isAllowedInHead(i, c);
            }
            if (i >= MAX_PROGRAM) {
                return false;
            }
            switch ((i - HEAD) % ORDER_SIZE) {
                case 0:
                    return c == 'o';
                case 1:
                    return c >= '0' && c < '0' + AUTHORS;
                case 2:
                    return c >= '1' && c <= '9';
                case 3:
                case 5:
                    return c == '0' || c == '1' || c == '-';
                case 4:
                case 6:
                    return endsLink(code(i - 1), c);
                default:
                    return isDigit(c);
            }
        }

        private boolean isAllowedInHead(int i, int c) {
            if (i == 0) {
                return c == 'D';
            }
            if (i == 1) {
                return c >= '0' && c <= '4';
            }
            int places = 10 * (code(1) - '0') + c - '0';
            return isDigit(c) && places >= MIN_PLACES && places <= MAX_PLACES;
        }

        private static boolean endsLink(int first, int second) {
            if (first == '-') {
                return second == '-';
            }
            return isDigit(second) && (first == '0' || second <= '5');
        }

        private static boolean isDigit(int c) {
            return c >= '0' && c <= '9';
        }

        private int code(int i) {
            return i >= 0 && i < codes.length ? codes[i] : 0;
        }

        private int digit(int i) {
            return code(i) - '0';
        }

        /** The number of two digits at the index i; NONE if -- stands there. */
        private int pair(int i) {
            return code(i) == '-' ? NONE : 10 * digit(i) + digit(i + 1);
        }

        /** Fills the state anew by the text, which must be a program. */
        void fill(State state) {
            state.reset(pair(1));
            for (int i = HEAD; i < length; i += ORDER_SIZE) {
                state.addNew(digit(i + 1), digit(i + 2), pair(i + 3), pair(i + 5), pair(i + 7));
            }
        }
    }

    /** The jumps, in the order in which they were made first. */
    private static final class Jumps {
        private static final int MAX_JUMPS = MAX_ORDERS * MAX_ORDERS;

        private final int[] from = new int[MAX_JUMPS];
        private final int[] to = new int[MAX_JUMPS];
        private final int[] times = new int[MAX_JUMPS];
        private int size;

        void note(int start, int end) {
            for (int i = 0; i < size; i++) {
                if (from[i] == start && to[i] == end) {
                    times[i]++;
                    return;
                }
            }
            if (size < MAX_JUMPS) {
                from[size] = start;
                to[size] = end;
                times[size] = 1;
                size++;
            }
        }

        int number(int i, int what) {
            if (i < 0 || i >= size) {
                return NONE;
            }
            if (what == 0) {
                return from[i];
            }
            return what == 1 ? to[i] : times[i];
        }

        void copyFrom(Jumps other) {
            for (int i = 0; i < other.size; i++) {
                from[i] = other.from[i];
                to[i] = other.to[i];
                times[i] = other.times[i];
            }
            size = other.size;
        }
    }

    /** The states remembered for undo, in a circle that begins with the oldest one. */
    private static final class Memory {
        private final State[] states = new State[MAX_REMEMBERED];
        private int oldest;
        private int size;

        Memory() {
            for (int i = 0; i < states.length; i++) {
                states[i] = new State();
            }
        }

        void forget() {
            oldest = 0;
            size = 0;
        }

        void remember(State state) {
            State kept = states[(oldest + size) % MAX_REMEMBERED];
            if (kept != null) {
                kept.copyFrom(state);
            }
            if (size < MAX_REMEMBERED) {
                size++;
            } else {
                oldest = (oldest + 1) % MAX_REMEMBERED;
            }
        }

        /** Brings the newest state back and remembers it no longer; there must be one. */
        void bringBack(State state) {
            if (size < 1) {
                return;
            }
            size--;
            State kept = states[(oldest + size) % MAX_REMEMBERED];
            if (kept != null) {
                state.copyFrom(kept);
            }
        }
    }

    /** The drum, the orders, and the accounts of bribes and jumps. */
    private static final class State {
        private int places = FIRST_PLACES;
        private int count;
        private int tick;
        private int lastEnd = NONE;
        private final int[] author = new int[MAX_ORDERS];
        private final int[] work = new int[MAX_ORDERS];
        private final int[] next = new int[MAX_ORDERS];
        private final int[] expects = new int[MAX_ORDERS];
        private final int[] bribe = new int[MAX_ORDERS];
        private final int[] place = new int[MAX_ORDERS];
        private final int[] delay = new int[MAX_ORDERS];
        private final int[] open = new int[MAX_ORDERS];
        private final int[] lastWait = new int[MAX_ORDERS];
        private final int[] paid = new int[AUTHORS];
        private final int[] refunded = new int[AUTHORS];
        private final Jumps jumps = new Jumps();

        void reset(int newPlaces) {
            places = newPlaces;
            count = 0;
            tick = 0;
            lastEnd = NONE;
            jumps.size = 0;
            for (int a = 0; a < AUTHORS; a++) {
                paid[a] = 0;
                refunded[a] = 0;
            }
            // what is open is summed over the whole row
            for (int o = 0; o < MAX_ORDERS; o++) {
                open[o] = 0;
            }
        }

        void copyFrom(State other) {
            places = other.places;
            count = other.count;
            tick = other.tick;
            lastEnd = other.lastEnd;
            copyRow(other.author, author);
            copyRow(other.work, work);
            copyRow(other.next, next);
            copyRow(other.expects, expects);
            copyRow(other.bribe, bribe);
            copyRow(other.place, place);
            copyRow(other.delay, delay);
            copyRow(other.open, open);
            copyRow(other.lastWait, lastWait);
            copyRow(other.paid, paid);
            copyRow(other.refunded, refunded);
            jumps.copyFrom(other.jumps);
        }

        private static void copyRow(int[] from, int[] to) {
            for (int i = 0; i < from.length && i < to.length; i++) {
                to[i] = from[i];
            }
        }

        boolean has(int o) {
            return o >= 0 && o < count && o < MAX_ORDERS;
        }

        boolean hasPlace(int p) {
            return p >= 0 && p < places;
        }

        boolean isOnDrum(int o) {
            return has(o) && place[o] != NONE;
        }

        /** The place that a number comes to when the places are counted around. */
        int around(int number) {
            return places > 0 ? Math.floorMod(number, places) : 0;
        }

        int laidOrders() {
            int laid = 0;
            for (int o = 0; o < MAX_ORDERS && has(o); o++) {
                if (place[o] != NONE) {
                    laid++;
                }
            }
            return laid;
        }

        int ordersOf(int a) {
            int orders = 0;
            for (int o = 0; o < MAX_ORDERS && has(o); o++) {
                if (author[o] == a) {
                    orders++;
                }
            }
            return orders;
        }

        int orderOn(int p) {
            for (int o = 0; o < MAX_ORDERS && has(o); o++) {
                if (place[o] == p) {
                    return o;
                }
            }
            return NONE;
        }

        boolean isFreeFor(int o, int p) {
            int there = orderOn(p);
            return there == NONE || there == o;
        }

        int chainLength(int first) {
            int met = 0;
            int length = 0;
            int o = first;
            while (length < MAX_ORDERS && has(o) && (met >> o & 1) == 0) {
                met |= 1 << o;
                length++;
                o = next[o];
            }
            return length;
        }

        int ringLength(int first) {
            int o = first;
            // so many steps lead into the ring from wherever the chain begins
            for (int i = 0; i < MAX_ORDERS && has(o); i++) {
                o = next[o];
            }
            return has(o) ? chainLength(o) : 0;
        }

        int addNew(int newAuthor, int newWork, int newNext, int newExpects, int newBribe) {
            int o = count;
            if (o < 0 || o >= MAX_ORDERS) {
                return NONE;
            }
            author[o] = newAuthor;
            work[o] = newWork;
            next[o] = newNext;
            expects[o] = newExpects;
            bribe[o] = newBribe;
            place[o] = NONE;
            delay[o] = NONE;
            open[o] = 0;
            lastWait[o] = NONE;
            count++;
            return o;
        }

        int replace(int o, int what, int v) {
            int[] row = changeableRow(what);
            if (row == null || o < 0 || o >= row.length) {
                return NONE;
            }
            int previous = row[o];
            row[o] = v;
            return previous;
        }

        private int[] changeableRow(int what) {
            switch (what) {
                case 0:
                    return author;
                case 1:
                    return work;
                case 2:
                    return next;
                case 3:
                    return expects;
                case 4:
                    return bribe;
                default:
                    return null;
            }
        }

        int put(int o, int p) {
            int refund = refund(o);
            place[o] = p;
            delay[o] = NONE;
            return refund;
        }

        private int refund(int o) {
            int refund = open[o];
            open[o] = 0;
            if (isAuthor(author[o])) {
                refunded[author[o]] += refund;
            }
            return refund;
        }

        void takeAllOff() {
            for (int o = 0; o < MAX_ORDERS && has(o); o++) {
                put(o, NONE);
            }
        }

        int layAll() {
            takeAllOff();
            int delays = 0;
            int o = laidBehind(NONE);
            for (int i = 0; i < MAX_ORDERS && has(o); i++) {
                layOne(o);
                if (delay[o] != NONE) {
                    delays += delay[o];
                }
                o = laidBehind(o);
            }
            return delays;
        }

        /** The order whose turn to be laid is behind that of the order last (NONE: the very first one's). */
        private int laidBehind(int last) {
            int best = NONE;
            for (int o = 0; o < MAX_ORDERS && has(o); o++) {
                boolean isBehind = !has(last) || bribe[o] < bribe[last] || bribe[o] == bribe[last] && o > last;
                if (isBehind && (best == NONE || bribe[o] > bribe[best])) {
                    best = o;
                }
            }
            return best;
        }

        private void layOne(int o) {
            int wanted = wantedPlace(o);
            for (int further = 0; further < places; further++) {
                int p = around(wanted + further);
                if (orderOn(p) == NONE) {
                    place[o] = p;
                    delay[o] = further;
                    open[o] = bribe[o];
                    if (isAuthor(author[o])) {
                        paid[author[o]] += bribe[o];
                    }
                    return;
                }
            }
        }

        private int wantedPlace(int o) {
            for (int before = 0; before < MAX_ORDERS && has(before); before++) {
                if (place[before] != NONE && next[before] == o) {
                    return around(place[before] + 1 + work[before]);
                }
            }
            if (isOnDrum(next[o])) {
                return around(place[next[o]] - 1 - work[o]);
            }
            return 0;
        }

        int waitFor(int o) {
            return isOnDrum(o) ? around(place[o] - tick) : NONE;
        }

        /** Makes a run that begins with the order first; returns how it ends. */
        int runFrom(int first) {
            int end = NONE;
            int from = NONE;
            int o = first;
            for (int reads = 0; reads <= MAX_READS && end == NONE; reads++) {
                if (!isOnDrum(o)) {
                    end = MISSING;
                } else if (from != NONE && expects[o] != NONE && expects[o] != from) {
                    end = FORGED;
                } else if (reads == MAX_READS) {
                    end = TOO_LONG;
                } else {
                    read(o, from != NONE);
                    if (next[o] == NONE) {
                        end = TOLD;
                    } else {
                        jumps.note(o, next[o]);
                        from = o;
                        o = next[o];
                    }
                }
            }
            lastEnd = end;
            return end;
        }

        private void read(int o, boolean byJump) {
            int wait = around(place[o] - tick);
            tick += wait;
            lastWait[o] = wait;
            if (byJump) {
                if (wait != 0) {
                    refund(o);
                }
                open[o] = 0;
            }
            tick += 1 + work[o];
        }
    }
}
