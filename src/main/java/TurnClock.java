/**
 * What happens by itself in a world of turns: clock, events, timers, daemons
 * and walkers. Words in capitals are the document's own (../shared/DOC.md).
 */
public final class TurnClock {
    public static final int NONE = -1, UNKNOWN = -2, OUTSIDE = -3, STATE = -4, ROOM = -5;

    private static final int MINUTES_OF_DAY = 1440;
    private static final int MOST_PACE = 60;
    private static final int MOST_SKIP = 600;
    private static final int MOST_LENGTH = 50;
    private static final int MOST_PRIORITY = 9;
    private static final int COUNTERS = 8;
    private static final int COUNTER_BOUND = 1000;

    private static final int MOST_ROOMS = 10;
    private static final int MOST_DOORS = 15;
    private static final int MOST_WALKERS = 4;
    private static final int MOST_DEEDS = 40;
    private static final int MOST_EVENTS = 12;
    private static final int MOST_TIMERS = 12;
    private static final int MOST_DAEMONS = 12;
    private static final int MOST_BACK = 8;
    /** Each EVENT, TIMER, DAEMON and WALKER has one row in a turn at most. */
    private static final int MOST_ROWS = MOST_EVENTS + MOST_TIMERS + MOST_DAEMONS + MOST_WALKERS;

    private static final int GROW_COUNTER = 0;
    private static final int START_TIMER = 1;
    private static final int STOP_TIMER = 2;
    private static final int DAEMON_ON = 3;
    private static final int DAEMON_OFF = 4;
    private static final int TURN_DOOR = 5;
    private static final int GIVE_GOAL = 6;
    private static final int END_TURN = 7;
    private static final int GROW_SKIP = 8;

    private static final int ROW_EVENT = 0;
    private static final int ROW_TIMER = 1;
    private static final int ROW_DAEMON = 2;
    private static final int ROW_WALKER = 3;

    private final House house;
    private final Deeds deeds;
    private final Events events;
    private final Timers timers;
    private final Daemons daemons;
    private final Moment now;
    private final Past past;
    /** Which TIMERS a DEED has started since the latest (b) began. */
    private final boolean[] startedSince;
    /** Whether the turn ENDS; it counts within a turn alone. */
    private boolean ended;

    public TurnClock() {
        house = new House();
        deeds = new Deeds();
        events = new Events();
        timers = new Timers();
        daemons = new Daemons();
        now = new Moment();
        past = new Past();
        startedSince = new boolean[MOST_TIMERS];
    }

    public int room() {
        return closePast(house.addRoom());
    }

    public int door(int a, int b) {
        if (!isThere(a, house.rooms) || !isThere(b, house.rooms)) {
            return UNKNOWN;
        }
        if (a == b) {
            return OUTSIDE;
        }
        return closePast(house.addDoor(a, b));
    }

    public int walker(int room) {
        if (!isThere(room, house.rooms)) {
            return UNKNOWN;
        }
        int number = house.addWalker();
        if (isThere(number, house.walkers)) {
            now.place[number] = room;
            now.goal[number] = NONE;
        }
        return closePast(number);
    }

    public int deed(int sort, int x, int y) {
        if (!isWithin(sort, GROW_COUNTER, GROW_SKIP)) {
            return OUTSIDE;
        }
        if (sort == GROW_COUNTER && !(isCounter(x) && isCounterValue(y))) {
            return OUTSIDE;
        }
        if (sort == GROW_SKIP && !isWithin(y, 1, MOST_SKIP)) {
            return OUTSIDE;
        }
        return closePast(deeds.addDeed(sort, x, y));
    }

    public int condition(int deed, int c, int least) {
        if (!isThere(deed, deeds.size)) {
            return UNKNOWN;
        }
        if (!(c == NONE || isCounter(c)) || !isCounterValue(least)) {
            return OUTSIDE;
        }
        deeds.counter[deed] = c;
        deeds.least[deed] = least;
        return closePast(1);
    }

    public int event(int deed, int minute, boolean daily) {
        if (!isThere(deed, deeds.size)) {
            return UNKNOWN;
        }
        if (!isWithin(minute, 0, MINUTES_OF_DAY - 1)) {
            return OUTSIDE;
        }
        return closePast(events.addEvent(deed, minute, daily));
    }

    public int timer(int deed, int length, boolean repeated) {
        if (!isThere(deed, deeds.size)) {
            return UNKNOWN;
        }
        if (!isWithin(length, 1, MOST_LENGTH)) {
            return OUTSIDE;
        }
        return closePast(timers.addTimer(deed, length, repeated));
    }

    public int daemon(int deed, int priority) {
        if (!isThere(deed, deeds.size)) {
            return UNKNOWN;
        }
        if (!isWithin(priority, 0, MOST_PRIORITY)) {
            return OUTSIDE;
        }
        return closePast(daemons.addDaemon(deed, priority));
    }

    public int act(int deed) {
        if (!isThere(deed, deeds.size)) {
            return UNKNOWN;
        }
        return closePast(doDeed(deed) ? 1 : 0);
    }

    public int pace(int n) {
        if (!isWithin(n, 1, MOST_PACE)) {
            return OUTSIDE;
        }
        int before = now.pace;
        now.pace = n;
        return closePast(before);
    }

    public int turn() {
        past.keep(now);
        now.turns++;
        now.rows = 0;
        // What was set by the turn before, or by an act, must not end this one.
        ended = false;
        bringEvents();
        runTimers();
        runDaemons();
        moveWalkers();
        return now.rows;
    }

    public int back() {
        if (past.size == 0) {
            return STATE;
        }
        past.giveBack(now);
        return past.size;
    }

    public int told(int what) {
        switch (what) {
            case 0: return now.time;
            case 1: return now.day;
            case 2: return now.turns;
            case 3: return now.pace;
            case 4: return now.skip;
            case 5: return past.size;
            case 6: return now.rows;
            default: return OUTSIDE;
        }
    }

    public int count(int what) {
        switch (what) {
            case 0: return house.rooms;
            case 1: return house.doors;
            case 2: return house.walkers;
            case 3: return deeds.size;
            case 4: return events.size;
            case 5: return timers.size;
            case 6: return daemons.size;
            default: return OUTSIDE;
        }
    }

    public int counter(int c) {
        return isCounter(c) ? now.counters[c] : OUTSIDE;
    }

    public int left(int timer) {
        return isThere(timer, timers.size) ? now.turnsLeft[timer] : UNKNOWN;
    }

    public int is(int kind, int number) {
        switch (kind) {
            case 0: return isThere(number, daemons.size) ? asNumber(now.on[number]) : UNKNOWN;
            case 1: return isThere(number, house.doors) ? asNumber(!now.shut[number]) : UNKNOWN;
            case 2: return isThere(number, events.size) ? asNumber(!now.gone[number]) : UNKNOWN;
            default: return OUTSIDE;
        }
    }

    public int walks(int walker, int what) {
        if (!isThere(walker, house.walkers)) {
            return UNKNOWN;
        }
        switch (what) {
            case 0: return now.place[walker];
            case 1: return now.goal[walker];
            default: return OUTSIDE;
        }
    }

    public int way(int from, int to) {
        if (!isThere(from, house.rooms) || !isThere(to, house.rooms)) {
            return UNKNOWN;
        }
        house.measureTo(to, now.shut);
        return house.distance[from];
    }

    public int row(int i, int what) {
        if (!isWithin(what, 0, 1)) {
            return OUTSIDE;
        }
        if (!isThere(i, now.rows)) {
            return NONE;
        }
        return what == 0 ? now.rowKind[i] : now.rowNumber[i];
    }

    public int minutes(int event) {
        if (!isThere(event, events.size)) {
            return UNKNOWN;
        }
        return now.gone[event] ? NONE : minutesUntil(events.minute[event]);
    }

    private static boolean isThere(int number, int size) {
        return number >= 0 && number < size;
    }

    private static boolean isWithin(int n, int least, int most) {
        return n >= least && n <= most;
    }

    private static boolean isCounter(int c) {
        return c >= 0 && c < COUNTERS;
    }

    private static boolean isCounterValue(int n) {
        return isWithin(n, -COUNTER_BOUND, COUNTER_BOUND);
    }

    private static int asNumber(boolean b) {
        return b ? 1 : 0;
    }

    /** Turns ahead of a call that was not refused may not be TAKEN BACK. */
    private int closePast(int answer) {
        if (answer >= 0) {
            past.size = 0;
        }
        return answer;
    }

    /** 1 to 1440: the present minute comes again only in a whole day. */
    private int minutesUntil(int minute) {
        int ahead = minute - now.time;
        return ahead > 0 ? ahead : ahead + MINUTES_OF_DAY;
    }

    /** Part (a) of a turn. */
    private void bringEvents() {
        int step = now.pace + now.skip;
        now.skip = 0;
        int due = lineUpEvents(step);
        now.goOn(step);
        for (int i = 0; i < due && !ended; i++) {
            bringEvent(events.due[i]);
        }
    }

    /** Puts the EVENTS of the next minutes into their order; how many. */
    private int lineUpEvents(int step) {
        int due = 0;
        for (int e = 0; e < events.size; e++) {
            int wait = minutesUntil(events.minute[e]);
            if (!now.gone[e] && wait <= step) {
                events.putInOrder(e, wait, due);
                due++;
            }
        }
        return due;
    }

    private void bringEvent(int event) {
        now.gone[event] = !events.daily[event];
        now.addRow(ROW_EVENT, event);
        doDeed(events.deed[event]);
    }

    /** Part (b) of a turn. What began to run within it is in startedSince. */
    private void runTimers() {
        for (int t = 0; t < timers.size; t++) {
            startedSince[t] = false;
        }
        for (int t = 0; t < timers.size && !ended; t++) {
            if (now.turnsLeft[t] > 0 && !startedSince[t]) {
                runTimer(t);
            }
        }
    }

    private void runTimer(int timer) {
        now.turnsLeft[timer]--;
        if (now.turnsLeft[timer] > 0) {
            return;
        }
        // Ahead of the DEED, which may stop this very TIMER.
        if (timers.repeated[timer]) {
            now.turnsLeft[timer] = timers.length[timer];
        }
        now.addRow(ROW_TIMER, timer);
        doDeed(timers.deed[timer]);
    }

    /** Part (c) of a turn. */
    private void runDaemons() {
        for (int p = 0; p <= MOST_PRIORITY; p++) {
            runDaemonsOf(p);
        }
    }

    private void runDaemonsOf(int priority) {
        for (int d = 0; d < daemons.size && !ended; d++) {
            if (daemons.priority[d] == priority && now.on[d]) {
                now.addRow(ROW_DAEMON, d);
                doDeed(daemons.deed[d]);
            }
        }
    }

    /** Part (d) of a turn. */
    private void moveWalkers() {
        for (int w = 0; w < house.walkers && !ended; w++) {
            if (now.goal[w] != NONE) {
                moveWalker(w);
            }
        }
    }

    private void moveWalker(int walker) {
        int next = house.nextRoom(now.place[walker], now.goal[walker], now.shut);
        if (next == NONE) {
            return;
        }
        now.place[walker] = next;
        if (next == now.goal[walker]) {
            now.goal[walker] = NONE;
        }
        now.addRow(ROW_WALKER, walker);
    }

    /** Whether its CONDITION held, so that it was done. */
    private boolean doDeed(int deed) {
        int c = deeds.counter[deed];
        if (c != NONE && now.counters[c] < deeds.least[deed]) {
            return false;
        }
        carryOut(deeds.sort[deed], deeds.x[deed], deeds.y[deed]);
        return true;
    }

    private void carryOut(int sort, int x, int y) {
        switch (sort) {
            case GROW_COUNTER: now.growCounter(x, y); break;
            case START_TIMER: startTimer(x); break;
            case STOP_TIMER: stopTimer(x); break;
            case DAEMON_ON: switchDaemon(x, true); break;
            case DAEMON_OFF: switchDaemon(x, false); break;
            case TURN_DOOR: turnDoor(x); break;
            case GIVE_GOAL: giveGoal(x, y); break;
            case END_TURN: ended = true; break;
            case GROW_SKIP: now.skip = Math.min(now.skip + y, MOST_SKIP); break;
            default: break;
        }
    }

    private void startTimer(int timer) {
        if (isThere(timer, timers.size)) {
            now.turnsLeft[timer] = timers.length[timer];
            startedSince[timer] = true;
        }
    }

    private void stopTimer(int timer) {
        if (isThere(timer, timers.size)) {
            now.turnsLeft[timer] = 0;
        }
    }

    private void switchDaemon(int daemon, boolean on) {
        if (isThere(daemon, daemons.size)) {
            now.on[daemon] = on;
        }
    }

    private void turnDoor(int door) {
        if (isThere(door, house.doors)) {
            now.shut[door] = !now.shut[door];
        }
    }

    private void giveGoal(int walker, int room) {
        if (isThere(walker, house.walkers) && isThere(room, house.rooms)) {
            now.goal[walker] = now.place[walker] == room ? NONE : room;
        }
    }

    /** The ROOMS, the DOORS between them and how many WALKERS there are. */
    private static final class House {
        int rooms;
        int doors;
        int walkers;
        final int[] oneSide = new int[MOST_DOORS];
        final int[] otherSide = new int[MOST_DOORS];
        /** Of each ROOM, as measured last; NONE: no way. */
        final int[] distance = new int[MOST_ROOMS];

        int addRoom() {
            if (rooms >= MOST_ROOMS) {
                return ROOM;
            }
            rooms++;
            return rooms - 1;
        }

        int addDoor(int a, int b) {
            if (doors >= MOST_DOORS) {
                return ROOM;
            }
            oneSide[doors] = a;
            otherSide[doors] = b;
            doors++;
            return doors - 1;
        }

        int addWalker() {
            if (walkers >= MOST_WALKERS) {
                return ROOM;
            }
            walkers++;
            return walkers - 1;
        }

        /** The ROOM one step nearer to the goal, the least such; NONE: no way. */
        int nextRoom(int place, int goal, boolean[] shut) {
            measureTo(goal, shut);
            int best = NONE;
            for (int d = 0; d < doors; d++) {
                int beyond = beyondDoor(d, place);
                if (!shut[d] && beyond != NONE && isNearer(beyond, place)
                        && (best == NONE || beyond < best)) {
                    best = beyond;
                }
            }
            return best;
        }

        private int beyondDoor(int door, int room) {
            if (oneSide[door] == room) {
                return otherSide[door];
            }
            return otherSide[door] == room ? oneSide[door] : NONE;
        }

        private boolean isNearer(int room, int place) {
            return distance[room] != NONE && distance[room] < distance[place];
        }

        /** Spreads from the ROOM through open DOORS, one DOOR further each time. */
        void measureTo(int to, boolean[] shut) {
            for (int r = 0; r < rooms; r++) {
                distance[r] = NONE;
            }
            distance[to] = 0;
            for (int far = 0; far < rooms; far++) {
                for (int d = 0; d < doors; d++) {
                    if (!shut[d]) {
                        spread(oneSide[d], otherSide[d], far);
                        spread(otherSide[d], oneSide[d], far);
                    }
                }
            }
        }

        private void spread(int from, int to, int far) {
            if (distance[from] == far && distance[to] == NONE) {
                distance[to] = far + 1;
            }
        }
    }

    /** The DEEDS and their CONDITIONS (counter NONE: without one). */
    private static final class Deeds {
        int size;
        final int[] sort = new int[MOST_DEEDS];
        final int[] x = new int[MOST_DEEDS];
        final int[] y = new int[MOST_DEEDS];
        final int[] counter = new int[MOST_DEEDS];
        final int[] least = new int[MOST_DEEDS];

        int addDeed(int itsSort, int itsX, int itsY) {
            if (size >= MOST_DEEDS) {
                return ROOM;
            }
            sort[size] = itsSort;
            x[size] = itsX;
            y[size] = itsY;
            counter[size] = NONE;
            size++;
            return size - 1;
        }
    }

    /** The EVENTS, and a line in which a turn puts those that are due. */
    private static final class Events {
        int size;
        final int[] deed = new int[MOST_EVENTS];
        final int[] minute = new int[MOST_EVENTS];
        final boolean[] daily = new boolean[MOST_EVENTS];
        final int[] due = new int[MOST_EVENTS];
        private final int[] dueWait = new int[MOST_EVENTS];

        int addEvent(int itsDeed, int itsMinute, boolean isDaily) {
            if (size >= MOST_EVENTS) {
                return ROOM;
            }
            deed[size] = itsDeed;
            minute[size] = itsMinute;
            daily[size] = isDaily;
            size++;
            return size - 1;
        }

        /** Behind those that wait as long: they have lesser numbers. */
        void putInOrder(int event, int wait, int lined) {
            if (lined >= MOST_EVENTS) {
                return;
            }
            int at = lined;
            while (at > 0 && dueWait[at - 1] > wait) {
                due[at] = due[at - 1];
                dueWait[at] = dueWait[at - 1];
                at--;
            }
            due[at] = event;
            dueWait[at] = wait;
        }
    }

    private static final class Timers {
        int size;
        final int[] deed = new int[MOST_TIMERS];
        final int[] length = new int[MOST_TIMERS];
        final boolean[] repeated = new boolean[MOST_TIMERS];

        int addTimer(int itsDeed, int itsLength, boolean isRepeated) {
            if (size >= MOST_TIMERS) {
                return ROOM;
            }
            deed[size] = itsDeed;
            length[size] = itsLength;
            repeated[size] = isRepeated;
            size++;
            return size - 1;
        }
    }

    private static final class Daemons {
        int size;
        final int[] deed = new int[MOST_DAEMONS];
        final int[] priority = new int[MOST_DAEMONS];

        int addDaemon(int itsDeed, int itsPriority) {
            if (size >= MOST_DAEMONS) {
                return ROOM;
            }
            deed[size] = itsDeed;
            priority[size] = itsPriority;
            size++;
            return size - 1;
        }
    }

    /** All that a turn may change, so that it can be TAKEN BACK. */
    private static final class Moment {
        int time;
        int day;
        int turns;
        int pace = 1;
        int skip;
        int rows;
        final int[] rowKind = new int[MOST_ROWS];
        final int[] rowNumber = new int[MOST_ROWS];
        final int[] counters = new int[COUNTERS];
        final boolean[] shut = new boolean[MOST_DOORS];
        final int[] place = new int[MOST_WALKERS];
        final int[] goal = new int[MOST_WALKERS];
        final int[] turnsLeft = new int[MOST_TIMERS];
        final boolean[] on = new boolean[MOST_DAEMONS];
        final boolean[] gone = new boolean[MOST_EVENTS];

        void goOn(int step) {
            time += step;
            // PACE and SKIP together are less than a day.
            if (time >= MINUTES_OF_DAY) {
                time -= MINUTES_OF_DAY;
                day++;
            }
        }

        void growCounter(int c, int by) {
            if (isCounter(c)) {
                counters[c] = Math.max(-COUNTER_BOUND, Math.min(COUNTER_BOUND, counters[c] + by));
            }
        }

        void addRow(int kind, int number) {
            if (rows < MOST_ROWS) {
                rowKind[rows] = kind;
                rowNumber[rows] = number;
                rows++;
            }
        }

        void copyFrom(Moment other) {
            time = other.time;
            day = other.day;
            turns = other.turns;
            pace = other.pace;
            skip = other.skip;
            rows = other.rows;
            System.arraycopy(other.rowKind, 0, rowKind, 0, MOST_ROWS);
            System.arraycopy(other.rowNumber, 0, rowNumber, 0, MOST_ROWS);
            System.arraycopy(other.counters, 0, counters, 0, COUNTERS);
            copyFlags(other.shut, shut);
            System.arraycopy(other.place, 0, place, 0, MOST_WALKERS);
            System.arraycopy(other.goal, 0, goal, 0, MOST_WALKERS);
            System.arraycopy(other.turnsLeft, 0, turnsLeft, 0, MOST_TIMERS);
            copyFlags(other.on, on);
            copyFlags(other.gone, gone);
        }

        /** By hand: the library's copying is for arrays of numbers. */
        private static void copyFlags(boolean[] from, boolean[] to) {
            for (int i = 0; i < from.length && i < to.length; i++) {
                to[i] = from[i];
            }
        }
    }

    /** The moments ahead of the latest turns, the oldest first. */
    private static final class Past {
        int size;
        private final Moment[] kept = new Moment[MOST_BACK];

        Past() {
            for (int i = 0; i < MOST_BACK; i++) {
                kept[i] = new Moment();
            }
        }

        void keep(Moment now) {
            if (size >= MOST_BACK) {
                dropOldest();
            }
            kept[size].copyFrom(now);
            size++;
        }

        /** The oldest goes behind the others, where its rows are used again. */
        private void dropOldest() {
            Moment oldest = kept[0];
            for (int i = 1; i < MOST_BACK; i++) {
                kept[i - 1] = kept[i];
            }
            kept[MOST_BACK - 1] = oldest;
            size = MOST_BACK - 1;
        }

        void giveBack(Moment now) {
            if (size > 0) {
                size--;
                now.copyFrom(kept[size]);
            }
        }
    }
}
