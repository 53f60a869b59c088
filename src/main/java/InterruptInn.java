/** Interrupt lines that wait for one server. ../shared/DOC.md says, in numbered promises, what it does. */
public final class InterruptInn {
    public static final int NO_SUCH = -1, BAD_VALUE = -2, BAD_TEXT = -3, TOO_MANY = -4, NOT_POSSIBLE = -5, NONE = -6;
    public static final int AGE = 0, CAP = 1, GAP = 2, DEEPEST = 3, SWITCH = 4, KEEP = 5, BAR = 6;

    private static final int MOST_LINES = 12;
    private static final int MOST_TIMERS = 6;
    private static final int MOST_PLACES = 8;
    private static final int DEVICES = 4;
    private static final int MOST_SIGNS = 80;
    private static final int MOST_STATES = 6;
    private static final int SLOTS = 2;
    private static final int MOST_RANK = 15;
    private static final int MOST_NEED = 50;
    private static final int MOST_DEADLINE = 500;
    private static final int MOST_PERIOD = 200;
    private static final int MOST_TICKS_AHEAD = 500;
    private static final int MOST_TICKS = 500;
    private static final int MOST_BAR_TICKS = 200;
    private static final int FORECAST = 600;
    private static final int MOST_BOUND = 3000;
    private static final int SETTINGS_FROM = 12;

    private static final int[] LEAST_VALUES = {0, 0, 1, 1, 0, 0, 0};
    private static final int[] MOST_VALUES = {100, 31, 9, 8, 9, 1, 31};
    private static final int[] FIRST_VALUES = {20, 24, 1, 3, 1, 1, 0};

    private final Server server;
    private final Server trial;
    private final Server[] slots;
    private final boolean[] saved;
    private final History history;
    private final Pad pad;

    public InterruptInn() {
        server = new Server();
        trial = new Server();
        slots = new Server[SLOTS];
        for (int slot = 0; slot < SLOTS; slot++) {
            slots[slot] = new Server();
        }
        saved = new boolean[SLOTS];
        history = new History();
        pad = new Pad();
    }

    // ---- setting up

    public int set(int setting, int value) {
        history.prepare(server);
        return history.recordUnlessError(server.changeSetting(setting, value));
    }

    public int line(int rank, int need, int deadline, int level) {
        history.prepare(server);
        return history.recordUnlessError(server.addLine(rank, need, deadline, level));
    }

    public int timer(int line, int period, int first) {
        history.prepare(server);
        return history.recordUnlessError(server.addTimer(line, period, first));
    }

    public int stop(int timer) {
        history.prepare(server);
        return history.recordUnlessError(server.removeTimer(timer));
    }

    // ---- lines

    public int raise(int line) {
        history.prepare(server);
        return history.recordUnlessError(server.raiseLine(line));
    }

    public int hold(int line, int device, int up) {
        history.prepare(server);
        return history.recordUnlessError(server.holdLine(line, device, up));
    }

    public int mask(int line, int is) {
        history.prepare(server);
        return history.recordUnlessError(server.maskLine(line, is));
    }

    public int change(int line, int rank, int need, int deadline) {
        history.prepare(server);
        return history.recordUnlessError(server.changeLine(line, rank, need, deadline));
    }

    public int ticks(int ticks) {
        history.prepare(server);
        return history.recordUnlessError(server.passTicks(ticks));
    }

    // ---- what there is

    public int ofLine(int line, int what) {
        return server.numberOfLine(line, what);
    }

    public int ofNest(int place, int what) {
        return server.numberOfPlace(place, what);
    }

    public int ofTimer(int timer, int what) {
        return server.numberOfTimer(timer, what);
    }

    public int count(int what) {
        switch (what) {
            case 10: return pad.length;
            case 11: return history.size;
            default: return server.numberOfAll(what);
        }
    }

    // ---- what if; nothing changes

    public int beginsIn(int line) {
        if (!server.hasLine(line)) {
            return NO_SUCH;
        }
        trial.copyFrom(server);
        return trial.ticksUntilBegin(line, FORECAST);
    }

    public int idleIn() {
        trial.copyFrom(server);
        return trial.ticksUntilIdle(FORECAST);
    }

    public int missesIn(int ticks) {
        if (!within(ticks, 1, MOST_TICKS)) {
            return BAD_VALUE;
        }
        trial.copyFrom(server);
        trial.passTicks(ticks);
        return trial.missesOfAll() - server.missesOfAll();
    }

    public int greatestBar(int line, int ticks) {
        if (!server.hasLine(line)) {
            return NO_SUCH;
        }
        if (!within(ticks, 1, MOST_BAR_TICKS)) {
            return BAD_VALUE;
        }
        // A bar may do where a lower one does not, as it keeps rivals away, too: so each one is tried.
        for (int bar = MOST_VALUES[BAR]; bar >= LEAST_VALUES[BAR]; bar--) {
            trial.copyFrom(server);
            trial.changeSetting(BAR, bar);
            if (trial.ticksUntilBegin(line, ticks) != NONE) {
                return bar;
            }
        }
        return NONE;
    }

    public int bound(int line) {
        return server.leastBound(line);
    }

    public int load() {
        return server.loadOfTimers();
    }

    // ---- texts

    public int put(long characters) {
        return pad.append(characters);
    }

    public int wipe() {
        return pad.clear();
    }

    public int fault() {
        return pad.firstFault();
    }

    public int carryOut() {
        if (pad.firstFault() != NONE) {
            return BAD_TEXT;
        }
        history.prepare(server);
        int done = 0;
        int start = 0;
        for (int end = 0; end <= pad.length; end++) {
            if (!pad.orderEndsAt(end)) {
                continue;
            }
            if (obey(start, end) < 0) {
                break;
            }
            done++;
            start = end + 1;
        }
        pad.clear();
        return history.recordUnlessError(done);
    }

    // ---- undo, saving

    public int undo() {
        return history.takeBack(server);
    }

    public int save(int slot) {
        if (!within(slot, 0, SLOTS - 1)) {
            return BAD_VALUE;
        }
        slots[slot].copyFrom(server);
        saved[slot] = true;
        return server.tick;
    }

    public int restore(int slot) {
        if (!within(slot, 0, SLOTS - 1)) {
            return BAD_VALUE;
        }
        if (!saved[slot]) {
            return NOT_POSSIBLE;
        }
        history.prepare(server);
        server.copyFrom(slots[slot]);
        return history.recordUnlessError(server.tick);
    }

    private int obey(int start, int end) {
        int line = pad.signAt(start + 1) - 'A';
        switch (pad.signAt(start)) {
            case 'u': return server.raiseLine(line);
            case 'h': return server.holdLine(line, pad.signAt(start + 2) - '0', 1);
            case 'l': return server.holdLine(line, pad.signAt(start + 2) - '0', 0);
            case 'm': return server.maskLine(line, 1);
            case 'n': return server.maskLine(line, 0);
            default: return server.passTicks(pad.numberBetween(start + 1, end));
        }
    }

    private static boolean within(int value, int least, int most) {
        return value >= least && value <= most;
    }

    /** Both are 0 or more; no caller divides by 0, and the machine is never asked to. */
    private static long dividedUp(long above, long below) {
        return below > 0 ? (above + below - 1) / below : 0;
    }

    private static final class Line {
        int rank;
        int need;
        int deadline;
        boolean level;
        boolean masked;
        boolean waits;
        int waited;
        int place;
        int devices;
        int came;
        int lost;
        int began;
        int ended;
        int longestWait;
        int allWaits;
        int misses;

        /** Sets every field, as the row may have been used by a line that was undone. */
        void becomeNew(boolean isLevel) {
            level = isLevel;
            masked = false;
            waits = false;
            waited = 0;
            place = NONE;
            devices = 0;
            came = 0;
            lost = 0;
            began = 0;
            ended = 0;
            longestWait = 0;
            allWaits = 0;
            misses = 0;
        }

        void shape(int newRank, int newNeed, int newDeadline) {
            rank = newRank;
            need = newNeed;
            deadline = newDeadline;
        }

        void copyFrom(Line other) {
            rank = other.rank;
            need = other.need;
            deadline = other.deadline;
            level = other.level;
            masked = other.masked;
            waits = other.waits;
            waited = other.waited;
            place = other.place;
            devices = other.devices;
            came = other.came;
            lost = other.lost;
            began = other.began;
            ended = other.ended;
            longestWait = other.longestWait;
            allWaits = other.allWaits;
            misses = other.misses;
        }

        int presentRank(int age, int cap) {
            if (!waits || age <= 0 || rank >= cap) {
                return rank;
            }
            int grown = rank + waited / age;
            return grown < cap ? grown : cap;
        }

        boolean mayBegin() {
            return waits && !masked && place == NONE;
        }

        boolean takeEdge(boolean keeps) {
            came++;
            if (waits || (masked && !keeps)) {
                lost++;
                return false;
            }
            waits = true;
            waited = 0;
            return true;
        }

        void moveDevice(int device, boolean up) {
            int bit = 1 << device;
            devices = up ? devices | bit : devices & ~bit;
            followDevices();
        }

        void followDevices() {
            boolean waitsNow = devices != 0 && place == NONE;
            if (waitsNow && !waits) {
                waited = 0;
            }
            waits = waitsNow;
        }

        void enterNest(int newPlace) {
            place = newPlace;
            waits = false;
            began++;
            allWaits += waited;
            if (waited > longestWait) {
                longestWait = waited;
            }
            if (deadline > 0 && waited > deadline) {
                misses++;
            }
        }

        void leaveNest() {
            place = NONE;
            ended++;
            if (level) {
                // Takes the lowest bit away, the lowest device, and leaves 0 as it is.
                devices &= devices - 1;
                followDevices();
            }
        }

        int number(int what, int age, int cap) {
            switch (what) {
                case 0: return rank;
                case 1: return need;
                case 2: return deadline;
                case 3: return level ? 1 : 0;
                case 4: return masked ? 1 : 0;
                case 5: return waits ? 1 : 0;
                case 6: return waits ? waited : NONE;
                case 7: return presentRank(age, cap);
                case 8: return place;
                case 9: return devices;
                case 10: return came;
                case 11: return lost;
                case 12: return began;
                case 13: return ended;
                case 14: return longestWait;
                case 15: return allWaits;
                case 16: return misses;
                default: return BAD_VALUE;
            }
        }
    }

    private static final class Service {
        int line;
        int rank;
        int left;
        int begun;

        void copyFrom(Service other) {
            line = other.line;
            rank = other.rank;
            left = other.left;
            begun = other.begun;
        }

        int number(int what) {
            switch (what) {
                case 0: return line;
                case 1: return rank;
                case 2: return left;
                case 3: return begun;
                default: return BAD_VALUE;
            }
        }
    }

    private static final class Timer {
        int line;
        int period;
        int next;

        void copyFrom(Timer other) {
            line = other.line;
            period = other.period;
            next = other.next;
        }

        int number(int what) {
            switch (what) {
                case 0: return line;
                case 1: return period;
                case 2: return next;
                default: return BAD_VALUE;
            }
        }
    }

    /** All that undo, save and restore bring back. Rows at or above a count hold nothing that counts. */
    private static final class Server {
        int tick;
        final int[] settings;
        final Line[] lines;
        int lineCount;
        final Timer[] timers;
        int timerCount;
        final Service[] nest;
        int depth;
        int servedTicks;
        int deepestSoFar;
        int interruptions;

        Server() {
            settings = FIRST_VALUES.clone();
            lines = new Line[MOST_LINES];
            for (int i = 0; i < MOST_LINES; i++) {
                lines[i] = new Line();
            }
            timers = new Timer[MOST_TIMERS];
            for (int i = 0; i < MOST_TIMERS; i++) {
                timers[i] = new Timer();
            }
            nest = new Service[MOST_PLACES];
            for (int i = 0; i < MOST_PLACES; i++) {
                nest[i] = new Service();
            }
        }

        void copyFrom(Server other) {
            tick = other.tick;
            System.arraycopy(other.settings, 0, settings, 0, settings.length);
            lineCount = other.lineCount;
            for (int i = 0; i < lineCount; i++) {
                lines[i].copyFrom(other.lines[i]);
            }
            timerCount = other.timerCount;
            for (int i = 0; i < timerCount; i++) {
                timers[i].copyFrom(other.timers[i]);
            }
            depth = other.depth;
            for (int i = 0; i < depth; i++) {
                nest[i].copyFrom(other.nest[i]);
            }
            servedTicks = other.servedTicks;
            deepestSoFar = other.deepestSoFar;
            interruptions = other.interruptions;
        }

        boolean hasLine(int line) {
            return within(line, 0, lineCount - 1);
        }

        boolean hasTimer(int timer) {
            return within(timer, 0, timerCount - 1);
        }

        // ---- changes: each returns an error and changes nothing, or its answer, which is 0 or more

        int changeSetting(int setting, int value) {
            if (!within(setting, 0, settings.length - 1)) {
                return BAD_VALUE;
            }
            if (!within(value, LEAST_VALUES[setting], MOST_VALUES[setting])) {
                return BAD_VALUE;
            }
            int previous = settings[setting];
            settings[setting] = value;
            return previous;
        }

        int addLine(int rank, int need, int deadline, int level) {
            if (!isShape(rank, need, deadline) || !within(level, 0, 1)) {
                return BAD_VALUE;
            }
            if (lineCount >= MOST_LINES) {
                return TOO_MANY;
            }
            lines[lineCount].becomeNew(level == 1);
            lines[lineCount].shape(rank, need, deadline);
            lineCount++;
            return lineCount - 1;
        }

        int changeLine(int line, int rank, int need, int deadline) {
            if (!hasLine(line)) {
                return NO_SUCH;
            }
            if (!isShape(rank, need, deadline)) {
                return BAD_VALUE;
            }
            int previous = lines[line].rank;
            lines[line].shape(rank, need, deadline);
            return previous;
        }

        static boolean isShape(int rank, int need, int deadline) {
            return within(rank, 0, MOST_RANK) && within(need, 1, MOST_NEED) && within(deadline, 0, MOST_DEADLINE);
        }

        int addTimer(int line, int period, int first) {
            if (!hasLine(line)) {
                return NO_SUCH;
            }
            if (!within(period, 1, MOST_PERIOD) || !within(first, tick, tick + MOST_TICKS_AHEAD)) {
                return BAD_VALUE;
            }
            if (timerCount >= MOST_TIMERS) {
                return TOO_MANY;
            }
            if (lines[line].level) {
                return NOT_POSSIBLE;
            }
            Timer timer = timers[timerCount];
            timer.line = line;
            timer.period = period;
            timer.next = first;
            timerCount++;
            return timerCount - 1;
        }

        int removeTimer(int timer) {
            if (!hasTimer(timer)) {
                return NO_SUCH;
            }
            for (int i = timer; i + 1 < timerCount; i++) {
                timers[i].copyFrom(timers[i + 1]);
            }
            timerCount--;
            return timerCount;
        }

        int raiseLine(int line) {
            if (!hasLine(line)) {
                return NO_SUCH;
            }
            if (lines[line].level) {
                return NOT_POSSIBLE;
            }
            return lines[line].takeEdge(settings[KEEP] == 1) ? 1 : 0;
        }

        int holdLine(int line, int device, int up) {
            if (!hasLine(line)) {
                return NO_SUCH;
            }
            if (!within(device, 0, DEVICES - 1) || !within(up, 0, 1)) {
                return BAD_VALUE;
            }
            if (!lines[line].level) {
                return NOT_POSSIBLE;
            }
            lines[line].moveDevice(device, up == 1);
            return lines[line].devices;
        }

        int maskLine(int line, int is) {
            if (!hasLine(line)) {
                return NO_SUCH;
            }
            if (!within(is, 0, 1)) {
                return BAD_VALUE;
            }
            int previous = lines[line].masked ? 1 : 0;
            lines[line].masked = is == 1;
            return previous;
        }

        int passTicks(int ticks) {
            if (!within(ticks, 1, MOST_TICKS)) {
                return BAD_VALUE;
            }
            for (int i = 0; i < ticks; i++) {
                passTick();
            }
            return tick;
        }

        // ---- a tick

        /** Returns the line of which a service began in this tick, or NONE. */
        int passTick() {
            raiseByTimers();
            int begun = beginFoundLine();
            serveTop();
            growWaits();
            tick++;
            return begun;
        }

        void raiseByTimers() {
            for (int i = 0; i < timerCount; i++) {
                Timer timer = timers[i];
                if (timer.next <= tick) {
                    lines[timer.line].takeEdge(settings[KEEP] == 1);
                    timer.next += timer.period;
                }
            }
        }

        int foundLine() {
            int found = NONE;
            int foundRank = 0;
            for (int i = 0; i < lineCount; i++) {
                if (!lines[i].mayBegin()) {
                    continue;
                }
                int rank = lines[i].presentRank(settings[AGE], settings[CAP]);
                if (rank < settings[BAR]) {
                    continue;
                }
                boolean ahead = found == NONE || rank > foundRank
                        || (rank == foundRank && lines[i].waited > lines[found].waited);
                if (ahead) {
                    found = i;
                    foundRank = rank;
                }
            }
            return found;
        }

        int beginFoundLine() {
            int found = foundLine();
            if (found == NONE) {
                return NONE;
            }
            Line line = lines[found];
            int rank = line.presentRank(settings[AGE], settings[CAP]);
            if (!nestTakes(rank)) {
                return NONE;
            }
            if (depth > 0) {
                interruptions++;
            }
            Service service = nest[depth];
            service.line = found;
            service.rank = rank;
            service.left = costOf(found);
            service.begun = tick;
            line.enterNest(depth);
            depth++;
            if (depth > deepestSoFar) {
                deepestSoFar = depth;
            }
            return found;
        }

        boolean nestTakes(int rank) {
            if (depth == 0) {
                return true;
            }
            boolean room = depth < settings[DEEPEST] && depth < MOST_PLACES;
            return room && rank >= nest[depth - 1].rank + settings[GAP];
        }

        void serveTop() {
            if (depth == 0) {
                return;
            }
            Service top = nest[depth - 1];
            servedTicks++;
            top.left--;
            if (top.left <= 0) {
                depth--;
                lines[top.line].leaveNest();
            }
        }

        void growWaits() {
            for (int i = 0; i < lineCount; i++) {
                if (lines[i].waits) {
                    lines[i].waited++;
                }
            }
        }

        // ---- numbers

        int numberOfLine(int line, int what) {
            if (!hasLine(line)) {
                return NO_SUCH;
            }
            return lines[line].number(what, settings[AGE], settings[CAP]);
        }

        int numberOfPlace(int place, int what) {
            return within(place, 0, depth - 1) ? nest[place].number(what) : NO_SUCH;
        }

        int numberOfTimer(int timer, int what) {
            return hasTimer(timer) ? timers[timer].number(what) : NO_SUCH;
        }

        int numberOfAll(int what) {
            int setting = what - SETTINGS_FROM;
            if (what >= SETTINGS_FROM && setting < settings.length) {
                return settings[setting];
            }
            switch (what) {
                case 0: return tick;
                case 1: return lineCount;
                case 2: return timerCount;
                case 3: return depth;
                case 4: return waitingLines();
                case 5: return foundLine();
                case 6: return servedTicks;
                case 7: return deepestSoFar;
                case 8: return missesOfAll();
                case 9: return interruptions;
                default: return BAD_VALUE;
            }
        }

        int waitingLines() {
            int set = 0;
            for (int i = 0; i < lineCount; i++) {
                if (lines[i].waits) {
                    set |= 1 << i;
                }
            }
            return set;
        }

        int missesOfAll() {
            int sum = 0;
            for (int i = 0; i < lineCount; i++) {
                sum += lines[i].misses;
            }
            return sum;
        }

        // ---- forecasts: these two let ticks pass, so they are asked of a copy

        int ticksUntilBegin(int line, int most) {
            for (int passed = 0; passed < most; passed++) {
                if (passTick() == line) {
                    return passed;
                }
            }
            return NONE;
        }

        int ticksUntilIdle(int most) {
            for (int passed = 0; passed < most; passed++) {
                if (depth == 0) {
                    return passed;
                }
                passTick();
            }
            return depth == 0 ? most : NONE;
        }

        // ---- sums of periods

        int costOf(int line) {
            return lines[line].need + settings[SWITCH];
        }

        int leastBound(int line) {
            if (!hasLine(line)) {
                return NO_SUCH;
            }
            int fixed = greatestCostBelow(lines[line].rank) + costOf(line);
            for (int w = 1; w <= MOST_BOUND; w++) {
                if (w == fixed + costOfRivals(line, w)) {
                    return w;
                }
            }
            return NONE;
        }

        int greatestCostBelow(int rank) {
            int greatest = 0;
            for (int i = 0; i < lineCount; i++) {
                if (lines[i].rank < rank && costOf(i) > greatest) {
                    greatest = costOf(i);
                }
            }
            return greatest;
        }

        int costOfRivals(int line, int w) {
            int sum = 0;
            for (int i = 0; i < timerCount; i++) {
                Timer timer = timers[i];
                if (timer.line != line && lines[timer.line].rank >= lines[line].rank) {
                    sum += (int) dividedUp(w, timer.period) * costOf(timer.line);
                }
            }
            return sum;
        }

        int loadOfTimers() {
            // Six periods of at most 200 keep both parts of the sum far inside a long.
            long above = 0;
            long below = 1;
            for (int i = 0; i < timerCount; i++) {
                above = above * timers[i].period + below * costOf(timers[i].line);
                below *= timers[i].period;
            }
            return (int) dividedUp(1000 * above, below);
        }
    }

    /** The states before the latest changes, in a ring with one row more, in which the next one is prepared. */
    private static final class History {
        final Server[] states;
        int next;
        int size;

        History() {
            states = new Server[MOST_STATES + 1];
            for (int i = 0; i < states.length; i++) {
                states[i] = new Server();
            }
        }

        void prepare(Server before) {
            states[next].copyFrom(before);
        }

        int recordUnlessError(int answer) {
            if (answer >= 0) {
                next = next + 1 < states.length ? next + 1 : 0;
                size = size < MOST_STATES ? size + 1 : MOST_STATES;
            }
            return answer;
        }

        int takeBack(Server server) {
            if (size == 0) {
                return NOT_POSSIBLE;
            }
            size--;
            next = next > 0 ? next - 1 : states.length - 1;
            server.copyFrom(states[next]);
            return size;
        }
    }

    private static final class Pad {
        // What may come next when the text is read from left to right.
        static final int WRONG = 0;
        static final int ORDER = 1;
        static final int LINE = 2;
        static final int HELD_LINE = 3;
        static final int DEVICE = 4;
        static final int NUMBER = 5;
        static final int TWO_DIGITS_MORE = 6;
        static final int DIGIT_MORE = 7;
        static final int END = 8;

        final char[] signs;
        int length;

        Pad() {
            signs = new char[MOST_SIGNS];
        }

        int append(long characters) {
            int more = lengthOf(characters);
            if (more == 0) {
                return BAD_VALUE;
            }
            if (length + more > MOST_SIGNS) {
                return TOO_MANY;
            }
            length += more;
            for (int i = 0; i < more; i++) {
                signs[length - 1 - i] = (char) ((characters >>> (8 * i)) & 255);
            }
            return length;
        }

        /** Returns 0 if these are no characters that can be put. */
        static int lengthOf(long characters) {
            for (int i = 0; i < 8; i++) {
                long rest = characters >>> (8 * i);
                if (rest == 0) {
                    return i;
                }
                if (!within((int) (rest & 255), 33, 126)) {
                    return 0;
                }
            }
            return 8;
        }

        int clear() {
            int previous = length;
            length = 0;
            return previous;
        }

        int firstFault() {
            int due = ORDER;
            for (int i = 0; i < length; i++) {
                due = dueAfter(due, signs[i]);
                if (due == WRONG) {
                    return i;
                }
            }
            return mayEnd(due) ? NONE : length;
        }

        static boolean mayEnd(int due) {
            return due == END || due == TWO_DIGITS_MORE || due == DIGIT_MORE;
        }

        static int dueAfter(int due, char sign) {
            if (sign == ';') {
                return mayEnd(due) ? ORDER : WRONG;
            }
            switch (due) {
                case ORDER: return dueAfterOrder(sign);
                case LINE: return within(sign, 'A', 'L') ? END : WRONG;
                case HELD_LINE: return within(sign, 'A', 'L') ? DEVICE : WRONG;
                case DEVICE: return within(sign, '0', '3') ? END : WRONG;
                case NUMBER: return sign == '0' ? END : dueAfterDigit(sign, TWO_DIGITS_MORE);
                case TWO_DIGITS_MORE: return dueAfterDigit(sign, DIGIT_MORE);
                case DIGIT_MORE: return dueAfterDigit(sign, END);
                default: return WRONG;
            }
        }

        static int dueAfterOrder(char sign) {
            switch (sign) {
                case 'u': case 'm': case 'n': return LINE;
                case 'h': case 'l': return HELD_LINE;
                case 't': return NUMBER;
                default: return WRONG;
            }
        }

        static int dueAfterDigit(char sign, int due) {
            return within(sign, '0', '9') ? due : WRONG;
        }

        /** Returns 0, which is no character, beyond the end. */
        char signAt(int index) {
            return within(index, 0, length - 1) ? signs[index] : 0;
        }

        boolean orderEndsAt(int index) {
            return index == length || signAt(index) == ';';
        }

        int numberBetween(int from, int end) {
            int number = 0;
            for (int i = from; i < end; i++) {
                number = 10 * number + signAt(i) - '0';
            }
            return number;
        }
    }
}
