/**
 * Of each promise: the last value that is taken and the first that is refused,
 * on both sides; which refusal comes first; and that a refused call changes nothing.
 */
public final class RefusalsTest {
    private static final int NONE = TurnClock.NONE, UNKNOWN = TurnClock.UNKNOWN;
    private static final int OUTSIDE = TurnClock.OUTSIDE, STATE = TurnClock.STATE, ROOM = TurnClock.ROOM;
    private static final int LEAST = Integer.MIN_VALUE, MOST = Integer.MAX_VALUE;
    private static final Check CHECK = new Check();
    private static final Twins TWINS = new Twins(CHECK);

    public static void main(String[] args) {
        room();
        door();
        walker();
        deedOfSorts();
        deedOfCounters();
        deedOfSkip();
        deedOfOthers();
        deedsAtMost();
        condition();
        conditionTaken();
        event();
        timer();
        daemon();
        act();
        pace();
        back();
        told();
        count();
        counter();
        left();
        is();
        walks();
        way();
        row();
        minutes();
        CHECK.end();
    }

    private static void due(String call, int got, int want) {
        CHECK.due(call, got, want);
    }

    private static void inEmpty(String what, Twins.Call call, int answer) {
        TWINS.refused("empty: " + what, Worlds::empty, call, answer);
    }

    private static void inSmall(String what, Twins.Call call, int answer) {
        TWINS.refused("small: " + what, Worlds::small, call, answer);
    }

    private static void inFull(String what, Twins.Call call, int answer) {
        TWINS.refused("full: " + what, Worlds::full, call, answer);
    }

    private static TurnClock small() {
        TurnClock x = new TurnClock();
        Worlds.small(x);
        return x;
    }

    private static TurnClock full() {
        TurnClock x = new TurnClock();
        Worlds.full(x);
        return x;
    }

    /** "ROOMS have numbers from 0 on, 10 at most"; promise 2: ROOM. */
    private static void room() {
        TurnClock x = new TurnClock();
        for (int i = 0; i < 10; i++) {
            due("2: a ROOM's number", x.room(), i);
            due("2: so many then", x.count(0), i + 1);
        }
        due("2: the eleventh", x.room(), ROOM);
        inFull("2: room()", y -> y.room(), ROOM);
    }

    /** "DOORS, 15 at most, each between two different ROOMS"; promise 3. */
    private static void door() {
        inEmpty("3: door(0, 0)", x -> x.door(0, 0), UNKNOWN);
        inEmpty("3: door(0, 1)", x -> x.door(0, 1), UNKNOWN);
        int[] notThere = {LEAST, -1, 2, MOST};
        for (int r : notThere) {
            inSmall("3: door(" + r + ", 0)", x -> x.door(r, 0), UNKNOWN);
            inSmall("3: door(1, " + r + ")", x -> x.door(1, r), UNKNOWN);
            inSmall("3: UNKNOWN ahead of OUTSIDE, door(r, r) of " + r, x -> x.door(r, r), UNKNOWN);
        }
        inSmall("3: door(0, 0)", x -> x.door(0, 0), OUTSIDE);
        inSmall("3: door(1, 1)", x -> x.door(1, 1), OUTSIDE);
        due("3: the first to the last", small().door(0, 1), 1);
        due("3: the last to the first", small().door(1, 0), 1);
        inFull("3: the sixteenth", x -> x.door(3, 9), ROOM);
        inFull("3: OUTSIDE ahead of ROOM", x -> x.door(9, 9), OUTSIDE);
        inFull("3: UNKNOWN ahead of ROOM", x -> x.door(0, 10), UNKNOWN);
        inFull("3: UNKNOWN ahead of ROOM", x -> x.door(-1, 9), UNKNOWN);
        doorsTaken();
    }

    private static void doorsTaken() {
        TurnClock x = new TurnClock();
        for (int i = 0; i < 10; i++) {
            x.room();
        }
        for (int i = 0; i < 15; i++) {
            due("3: a DOOR's number", x.door(i % 10, (i + 9) % 10), i);
            due("3: so many then", x.count(1), i + 1);
            due("3: open at first", x.is(1, i), 1);
        }
        due("3: the sixteenth", x.door(0, 9), ROOM);
    }

    /** "WALKERS, 4 at most, each in a ROOM, with a GOAL (a ROOM) or none (at first)"; promise 4. */
    private static void walker() {
        inEmpty("4: walker(0)", x -> x.walker(0), UNKNOWN);
        int[] notThere = {LEAST, -1, 2, MOST};
        for (int r : notThere) {
            inSmall("4: walker(" + r + ")", x -> x.walker(r), UNKNOWN);
        }
        inFull("4: the fifth", x -> x.walker(9), ROOM);
        inFull("4: UNKNOWN ahead of ROOM", x -> x.walker(10), UNKNOWN);
        inFull("4: UNKNOWN ahead of ROOM", x -> x.walker(-1), UNKNOWN);
        TurnClock x = new TurnClock();
        for (int i = 0; i < 10; i++) {
            x.room();
        }
        int[] places = {0, 9, 9, 0};
        for (int w = 0; w < 4; w++) {
            due("4: a WALKER's number", x.walker(places[w]), w);
            due("4: so many then", x.count(2), w + 1);
            due("4: its ROOM", x.walks(w, 0), places[w]);
            due("4: no GOAL at first", x.walks(w, 1), NONE);
        }
        due("4: the fifth", x.walker(0), ROOM);
    }

    /** Promise 5: "OUTSIDE: the SORT". */
    private static void deedOfSorts() {
        int[] noSorts = {LEAST, -1, 9, MOST};
        for (int sort : noSorts) {
            inEmpty("5: deed(" + sort + ", 0, 1)", x -> x.deed(sort, 0, 1), OUTSIDE);
            inFull("5: OUTSIDE ahead of ROOM, SORT " + sort, x -> x.deed(sort, 0, 1), OUTSIDE);
        }
        for (int sort = 0; sort <= 8; sort++) {
            due("5: SORT " + sort, new TurnClock().deed(sort, 0, 1), 0);
        }
    }

    /** Promise 5: "of SORT 0: y not -1000 to 1000, x not 0 to 7". */
    private static void deedOfCounters() {
        int[][] outside = {{0, 1001}, {0, -1001}, {7, 1001}, {7, -1001}, {0, MOST}, {0, LEAST},
            {-1, 0}, {8, 0}, {-1, 1000}, {8, -1000}, {LEAST, 0}, {MOST, 0}, {8, 1001}};
        for (int[] xy : outside) {
            String what = "deed(0, " + xy[0] + ", " + xy[1] + ")";
            inSmall("5: " + what, x -> x.deed(0, xy[0], xy[1]), OUTSIDE);
            inFull("5: OUTSIDE ahead of ROOM, " + what, x -> x.deed(0, xy[0], xy[1]), OUTSIDE);
        }
        int[][] taken = {{0, 1000}, {0, -1000}, {7, 1000}, {7, -1000}, {0, 0}, {7, 0}};
        for (int[] xy : taken) {
            TurnClock x = small();
            int before = x.counter(xy[0]);
            due("5: deed(0, " + xy[0] + ", " + xy[1] + ")", x.deed(0, xy[0], xy[1]), 6);
            due("5: so many then", x.count(3), 7);
            due("5: it is done", x.act(6), 1);
            due("5: by so much", x.counter(xy[0]), Math.min(1000, before + xy[1]));
        }
    }

    /** Promise 5: "of SORT 8: y not 1 to 600"; of it x is any. */
    private static void deedOfSkip() {
        int[] outside = {0, 601, -1, LEAST, MOST};
        for (int y : outside) {
            inSmall("5: deed(8, 0, " + y + ")", x -> x.deed(8, 0, y), OUTSIDE);
            inFull("5: OUTSIDE ahead of ROOM, deed(8, 0, " + y + ")", x -> x.deed(8, 0, y), OUTSIDE);
        }
        int[][] taken = {{0, 1}, {0, 600}, {-1, 1}, {8, 600}, {LEAST, 1}, {MOST, 600}};
        for (int[] xy : taken) {
            TurnClock x = new TurnClock();
            due("5: deed(8, " + xy[0] + ", " + xy[1] + ")", x.deed(8, xy[0], xy[1]), 0);
            due("5: it is done", x.act(0), 1);
            due("5: by so much", x.told(4), xy[1]);
        }
    }

    /** Promise 5: "(Of others x and y are any.)" */
    private static void deedOfOthers() {
        int[] any = {LEAST, -1001, -1, 0, 8, 1001, MOST};
        for (int sort = 1; sort <= 7; sort++) {
            TurnClock x = new TurnClock();
            int made = 0;
            for (int n : any) {
                due("5: SORT " + sort + ", x " + n, x.deed(sort, n, 0), made++);
                due("5: SORT " + sort + ", y " + n, x.deed(sort, 0, n), made++);
            }
        }
    }

    /** "DEEDS, 40 at most"; promise 5: ROOM. */
    private static void deedsAtMost() {
        TurnClock x = new TurnClock();
        for (int i = 0; i < 40; i++) {
            due("5: a DEED's number", x.deed(i % 9, 1, 1), i);
            due("5: so many then", x.count(3), i + 1);
        }
        for (int sort = 0; sort <= 8; sort++) {
            int s = sort;
            due("5: the 41st", x.deed(s, 1, 1), ROOM);
            inFull("5: the 41st, SORT " + s, y -> y.deed(s, 1, 1), ROOM);
        }
    }

    /** Promise 6: "UNKNOWN; OUTSIDE: c, least (-1000 to 1000)". */
    private static void condition() {
        inEmpty("6: condition(0, 0, 0)", x -> x.condition(0, 0, 0), UNKNOWN);
        int[] noDeeds = {LEAST, -1, 6, MOST};
        for (int d : noDeeds) {
            inSmall("6: condition(" + d + ", 0, 0)", x -> x.condition(d, 0, 0), UNKNOWN);
            inSmall("6: UNKNOWN ahead of OUTSIDE (c), " + d, x -> x.condition(d, 8, 0), UNKNOWN);
            inSmall("6: UNKNOWN ahead of OUTSIDE (least), " + d, x -> x.condition(d, 0, 1001), UNKNOWN);
            inSmall("6: UNKNOWN of none any more, " + d, x -> x.condition(d, NONE, 0), UNKNOWN);
        }
        inFull("6: condition(40, 0, 0)", x -> x.condition(40, 0, 0), UNKNOWN);
        int[] noCounters = {LEAST, -2, 8, MOST};
        int[] noLeast = {LEAST, -1001, 1001, MOST};
        int[] deeds = {0, 3, 5};
        for (int d : deeds) {
            for (int c : noCounters) {
                inSmall("6: condition(" + d + ", " + c + ", 1000)", x -> x.condition(d, c, 1000), OUTSIDE);
            }
            for (int least : noLeast) {
                inSmall("6: condition(" + d + ", 0, " + least + ")", x -> x.condition(d, 0, least), OUTSIDE);
                inSmall("6: condition(" + d + ", 7, " + least + ")", x -> x.condition(d, 7, least), OUTSIDE);
                inSmall("6: of none, least " + least, x -> x.condition(d, NONE, least), OUTSIDE);
            }
        }
    }

    private static void conditionTaken() {
        int[][] taken = {{0, 1000}, {7, 1000}, {0, -1000}, {7, -1000}, {NONE, 1000}, {NONE, -1000}};
        for (int[] t : taken) {
            String what = "condition(39, " + t[0] + ", " + t[1] + ")";
            TurnClock x = full();
            due("6: " + what, x.condition(39, t[0], t[1]), 1);
            due("6: " + what + ", done then", x.act(39), t[0] != NONE && t[1] == 1000 ? 0 : 1);
        }
        TurnClock x = full();
        due("6: the first DEED", x.condition(0, 7, 1000), 1);
        due("6: it does not hold", x.act(0), 0);
        due("6: none any more", x.condition(0, NONE, 0), 1);
        due("6: it is done", x.act(0), 1);
        due("6: none, though it had none", x.condition(0, NONE, 0), 1);
        due("6: it is done", x.act(0), 1);
    }

    /** "EVENTS, 12 at most: a DEED, a MINUTE (0 to 1439)"; promise 7. */
    private static void event() {
        inEmpty("7: event(0, 0, true)", x -> x.event(0, 0, true), UNKNOWN);
        int[] noDeeds = {LEAST, -1, 6, MOST};
        int[] noMinutes = {LEAST, -1, 1440, MOST};
        for (int d : noDeeds) {
            inSmall("7: event(" + d + ", 0, true)", x -> x.event(d, 0, true), UNKNOWN);
            inSmall("7: UNKNOWN ahead of OUTSIDE, " + d, x -> x.event(d, 1440, false), UNKNOWN);
            inFull("7: UNKNOWN ahead of ROOM", x -> x.event(d < 0 ? d : 40, 1439, false), UNKNOWN);
        }
        for (int m : noMinutes) {
            inSmall("7: event(0, " + m + ", true)", x -> x.event(0, m, true), OUTSIDE);
            inSmall("7: event(5, " + m + ", false)", x -> x.event(5, m, false), OUTSIDE);
            inFull("7: OUTSIDE ahead of ROOM, " + m, x -> x.event(0, m, true), OUTSIDE);
        }
        inFull("7: the thirteenth", x -> x.event(0, 0, true), ROOM);
        inFull("7: the thirteenth", x -> x.event(39, 1439, false), ROOM);
        TurnClock x = small();
        for (int e = 1; e < 12; e++) {
            due("7: an EVENT's number", x.event(e % 2 == 0 ? 0 : 5, e % 2 == 0 ? 0 : 1439, e % 3 == 0), e);
            due("7: so many then", x.count(4), e + 1);
            due("7: not gone", x.is(2, e), 1);
            due("7: its MINUTE", (x.told(0) + x.minutes(e)) % 1440, e % 2 == 0 ? 0 : 1439);
        }
        due("7: the thirteenth", x.event(0, 0, true), ROOM);
    }

    /** "TIMERS, 12 at most: a DEED, a LENGTH (1 to 50)"; promise 8. */
    private static void timer() {
        inEmpty("8: timer(0, 1, true)", x -> x.timer(0, 1, true), UNKNOWN);
        int[] noDeeds = {LEAST, -1, 6, MOST};
        int[] noLengths = {LEAST, -1, 0, 51, MOST};
        for (int d : noDeeds) {
            inSmall("8: timer(" + d + ", 1, true)", x -> x.timer(d, 1, true), UNKNOWN);
            inSmall("8: UNKNOWN ahead of OUTSIDE, " + d, x -> x.timer(d, 51, false), UNKNOWN);
            inFull("8: UNKNOWN ahead of ROOM", x -> x.timer(d < 0 ? d : 40, 50, false), UNKNOWN);
        }
        for (int n : noLengths) {
            inSmall("8: timer(0, " + n + ", true)", x -> x.timer(0, n, true), OUTSIDE);
            inSmall("8: timer(5, " + n + ", false)", x -> x.timer(5, n, false), OUTSIDE);
            inFull("8: OUTSIDE ahead of ROOM, " + n, x -> x.timer(0, n, true), OUTSIDE);
        }
        inFull("8: the thirteenth", x -> x.timer(0, 1, true), ROOM);
        inFull("8: the thirteenth", x -> x.timer(39, 50, false), ROOM);
        TurnClock x = small();
        for (int t = 1; t < 12; t++) {
            due("8: a TIMER's number", x.timer(t % 2 == 0 ? 0 : 5, t % 2 == 0 ? 1 : 50, t % 3 == 0), t);
            due("8: so many then", x.count(5), t + 1);
            due("8: it does not run at first", x.left(t), 0);
            x.act(x.deed(1, t, 0));
            due("8: its LENGTH", x.left(t), t % 2 == 0 ? 1 : 50);
        }
        due("8: the thirteenth", x.timer(0, 1, true), ROOM);
    }

    /** "DAEMONS, 12 at most: a DEED, a PRIORITY (0 to 9); on or off (at first off)"; promise 9. */
    private static void daemon() {
        inEmpty("9: daemon(0, 0)", x -> x.daemon(0, 0), UNKNOWN);
        int[] noDeeds = {LEAST, -1, 6, MOST};
        int[] noPriorities = {LEAST, -1, 10, MOST};
        for (int d : noDeeds) {
            inSmall("9: daemon(" + d + ", 0)", x -> x.daemon(d, 0), UNKNOWN);
            inSmall("9: UNKNOWN ahead of OUTSIDE, " + d, x -> x.daemon(d, 10), UNKNOWN);
            inFull("9: UNKNOWN ahead of ROOM", x -> x.daemon(d < 0 ? d : 40, 9), UNKNOWN);
        }
        for (int p : noPriorities) {
            inSmall("9: daemon(0, " + p + ")", x -> x.daemon(0, p), OUTSIDE);
            inSmall("9: daemon(5, " + p + ")", x -> x.daemon(5, p), OUTSIDE);
            inFull("9: OUTSIDE ahead of ROOM, " + p, x -> x.daemon(0, p), OUTSIDE);
        }
        inFull("9: the thirteenth", x -> x.daemon(0, 0), ROOM);
        inFull("9: the thirteenth", x -> x.daemon(39, 9), ROOM);
        TurnClock x = small();
        for (int d = 1; d < 12; d++) {
            due("9: a DAEMON's number", x.daemon(d % 2 == 0 ? 0 : 5, d % 2 == 0 ? 0 : 9), d);
            due("9: so many then", x.count(6), d + 1);
            due("9: off at first", x.is(0, d), 0);
        }
        due("9: the thirteenth", x.daemon(0, 0), ROOM);
    }

    /** Promise 10: "0: its CONDITION does not hold. UNKNOWN." */
    private static void act() {
        inEmpty("10: act(0)", x -> x.act(0), UNKNOWN);
        int[] noDeeds = {LEAST, -1, 6, MOST};
        for (int d : noDeeds) {
            inSmall("10: act(" + d + ")", x -> x.act(d), UNKNOWN);
        }
        inFull("10: act(40)", x -> x.act(40), UNKNOWN);
        due("10: the first DEED", full().act(0), 1);
        due("10: the last DEED", full().act(39), 1);
        due("10: the last DEED of few", small().act(5), 1);
        TWINS.alike("10: a CONDITION that does not hold does nothing", Worlds::full,
            x -> x.act(33), x -> x.condition(33, 7, 1) - 1, 0);
    }

    /** "PACE is 1 to 60 (at first 1)"; promise 11: "what it was. OUTSIDE." */
    private static void pace() {
        int[] outside = {LEAST, -1, 0, 61, MOST};
        for (int n : outside) {
            inEmpty("11: pace(" + n + ")", x -> x.pace(n), OUTSIDE);
            inSmall("11: pace(" + n + ")", x -> x.pace(n), OUTSIDE);
        }
        TurnClock x = new TurnClock();
        due("11: told(3) at first", x.told(3), 1);
        due("11: pace(1), what it was at first", x.pace(1), 1);
        due("11: pace(60)", x.pace(60), 1);
        due("11: told(3)", x.told(3), 60);
        due("11: pace(60) again", x.pace(60), 60);
        due("11: pace(1)", x.pace(1), 60);
        due("11: told(3)", x.told(3), 1);
    }

    /** Promise 13: "STATE: none may." */
    private static void back() {
        TWINS.refused("13: new: back()", x -> { }, x -> x.back(), STATE);
        TWINS.refused("13: all taken back: back()", x -> { Worlds.small(x); x.back(); x.back(); }, x -> x.back(), STATE);
        TWINS.refused("13: closed: back()", x -> { Worlds.full(x); x.act(0); }, x -> x.back(), STATE);
        TWINS.refused("13: eight taken back: back()", x -> nineTurnsAndEightBack(x), x -> x.back(), STATE);
    }

    private static void nineTurnsAndEightBack(TurnClock x) {
        for (int i = 0; i < 9; i++) {
            x.turn();
        }
        for (int i = 7; i >= 0; i--) {
            due("13: how many still", x.back(), i);
        }
    }

    /** Promise 14: what is 0 to 6. */
    private static void told() {
        int[] outside = {LEAST, -1, 7, MOST};
        for (int what : outside) {
            inEmpty("14: told(" + what + ")", x -> x.told(what), OUTSIDE);
            inSmall("14: told(" + what + ")", x -> x.told(what), OUTSIDE);
        }
        int[] due = {104, 0, 2, 2, 0, 2, 1};
        for (int what = 0; what < 7; what++) {
            due("14: told(" + what + ")", small().told(what), due[what]);
        }
    }

    /** Promise 15: what is 0 to 6; "gone ones, too". */
    private static void count() {
        int[] outside = {LEAST, -1, 7, MOST};
        for (int what : outside) {
            inEmpty("15: count(" + what + ")", x -> x.count(what), OUTSIDE);
            inFull("15: count(" + what + ")", x -> x.count(what), OUTSIDE);
        }
        int[] few = {2, 1, 1, 6, 1, 1, 1};
        int[] most = {10, 15, 4, 40, 12, 12, 12};
        for (int what = 0; what < 7; what++) {
            due("15: count(" + what + ") of none", new TurnClock().count(what), 0);
            due("15: count(" + what + ") of few", small().count(what), few[what]);
            due("15: count(" + what + ") of most", full().count(what), most[what]);
        }
        due("15: its one EVENT is gone", small().is(2, 0), 0);
    }

    /** Promise 16: "A COUNTER. OUTSIDE. (It may be a number below 0.)" */
    private static void counter() {
        int[] outside = {LEAST, -1, 8, MOST};
        for (int c : outside) {
            inEmpty("16: counter(" + c + ")", x -> x.counter(c), OUTSIDE);
            inSmall("16: counter(" + c + ")", x -> x.counter(c), OUTSIDE);
        }
        TurnClock x = new TurnClock();
        for (int c = 0; c < 8; c++) {
            Worlds.setCounter(x, c, -1 - c);
        }
        for (int c = 0; c < 8; c++) {
            due("16: counter(" + c + ")", x.counter(c), -1 - c);
        }
    }

    /** Promise 17: "LEFT of a TIMER. UNKNOWN." */
    private static void left() {
        inEmpty("17: left(0)", x -> x.left(0), UNKNOWN);
        int[] unknown = {LEAST, -1, 1, MOST};
        for (int t : unknown) {
            inSmall("17: left(" + t + ")", x -> x.left(t), UNKNOWN);
        }
        inFull("17: left(12)", x -> x.left(12), UNKNOWN);
        due("17: the only one", small().left(0), 1);
        due("17: the first", full().left(0), 1);
        due("17: the last", full().left(11), 2);
    }

    /** Promise 18: "OUTSIDE: the kind; UNKNOWN (behind that here)". */
    private static void is() {
        int[] noKinds = {LEAST, -1, 3, MOST};
        for (int kind : noKinds) {
            inSmall("18: is(" + kind + ", 0)", x -> x.is(kind, 0), OUTSIDE);
            inEmpty("18: OUTSIDE ahead of UNKNOWN, is(" + kind + ", 0)", x -> x.is(kind, 0), OUTSIDE);
            inFull("18: OUTSIDE ahead of UNKNOWN, is(" + kind + ", -1)", x -> x.is(kind, -1), OUTSIDE);
            inFull("18: OUTSIDE ahead of UNKNOWN, is(" + kind + ", 15)", x -> x.is(kind, 15), OUTSIDE);
        }
        int[] unknown = {LEAST, -1, 1, MOST};
        int[] most = {12, 15, 12};
        for (int kind = 0; kind < 3; kind++) {
            int k = kind;
            inEmpty("18: is(" + k + ", 0)", x -> x.is(k, 0), UNKNOWN);
            for (int n : unknown) {
                inSmall("18: is(" + k + ", " + n + ")", x -> x.is(k, n), UNKNOWN);
            }
            inFull("18: is(" + k + ", " + most[k] + ")", x -> x.is(k, most[k]), UNKNOWN);
        }
        isOfFirstAndLast();
    }

    private static void isOfFirstAndLast() {
        int[] last = {11, 14, 11};
        for (int kind = 0; kind < 3; kind++) {
            due("18: the first of kind " + kind, full().is(kind, 0), 1);
            due("18: the last of kind " + kind, full().is(kind, last[kind]), 1);
        }
        TurnClock x = full();
        x.act(27);
        x.act(28);
        x.act(35);
        x.turn();
        due("18: the first DAEMON is off", x.is(0, 0), 0);
        due("18: the first DOOR is shut", x.is(1, 0), 0);
        due("18: the last DOOR is shut", x.is(1, 14), 0);
        due("18: the last EVENT is gone", x.is(2, 11), 0);
    }

    /** Promise 19: "UNKNOWN; OUTSIDE." */
    private static void walks() {
        inEmpty("19: walks(0, 0)", x -> x.walks(0, 0), UNKNOWN);
        int[] unknown = {LEAST, -1, 1, MOST};
        int[] outside = {LEAST, -1, 2, MOST};
        for (int w : unknown) {
            inSmall("19: walks(" + w + ", 0)", x -> x.walks(w, 0), UNKNOWN);
            inSmall("19: walks(" + w + ", 1)", x -> x.walks(w, 1), UNKNOWN);
            inSmall("19: UNKNOWN ahead of OUTSIDE, walks(" + w + ", 2)", x -> x.walks(w, 2), UNKNOWN);
        }
        for (int what : outside) {
            inSmall("19: walks(0, " + what + ")", x -> x.walks(0, what), OUTSIDE);
        }
        inFull("19: walks(4, 0)", x -> x.walks(4, 0), UNKNOWN);
        TurnClock x = full();
        due("19: the first's ROOM", x.walks(0, 0), 9);
        due("19: the first's GOAL", x.walks(0, 1), 6);
        due("19: the last's ROOM", x.walks(3, 0), 5);
        due("19: the last's GOAL", x.walks(3, 1), 4);
    }

    /** Promise 20: "or the same: 0"; "NONE: there is none. UNKNOWN." */
    private static void way() {
        inEmpty("20: way(0, 0)", x -> x.way(0, 0), UNKNOWN);
        int[] unknown = {LEAST, -1, 2, MOST};
        for (int r : unknown) {
            inSmall("20: way(" + r + ", 0)", x -> x.way(r, 0), UNKNOWN);
            inSmall("20: way(1, " + r + ")", x -> x.way(1, r), UNKNOWN);
            inSmall("20: way(r, r) of " + r, x -> x.way(r, r), UNKNOWN);
        }
        inFull("20: way(0, 10)", x -> x.way(0, 10), UNKNOWN);
        inFull("20: way(10, 9)", x -> x.way(10, 9), UNKNOWN);
        TurnClock x = new TurnClock();
        for (int i = 0; i < 10; i++) {
            x.room();
            due("20: to itself, without a DOOR", x.way(i, i), 0);
            due("20: without a DOOR", x.way(0, i), i == 0 ? 0 : NONE);
        }
        for (int i = 0; i < 9; i++) {
            due("20: not yet", x.way(0, i + 1), NONE);
            x.door(i + 1, i);
            due("20: as far as the DOORS go", x.way(0, i + 1), i + 1);
            due("20: and from there", x.way(i + 1, 0), i + 1);
        }
        due("20: to itself, with DOORS", x.way(9, 9), 0);
    }

    /** Promise 21: "NONE: there is none such. OUTSIDE: what." */
    private static void row() {
        int[] outside = {LEAST, -1, 2, MOST};
        for (int what : outside) {
            inEmpty("21: OUTSIDE, though there is no row, row(0, " + what + ")", x -> x.row(0, what), OUTSIDE);
            inSmall("21: row(0, " + what + ")", x -> x.row(0, what), OUTSIDE);
            inSmall("21: row(-1, " + what + ")", x -> x.row(-1, what), OUTSIDE);
        }
        int[] noRows = {LEAST, -1, 1, MOST};
        for (int i : noRows) {
            inSmall("21: row(" + i + ", 0)", x -> x.row(i, 0), NONE);
            inSmall("21: row(" + i + ", 1)", x -> x.row(i, 1), NONE);
        }
        inEmpty("21: row(0, 0)", x -> x.row(0, 0), NONE);
        inEmpty("21: row(0, 1)", x -> x.row(0, 1), NONE);
        due("21: the only row", small().row(0, 0), 2);
        due("21: its number", small().row(0, 1), 0);
        int rows = full().told(6);
        due("21: of the last row", full().row(rows - 1, 0), 3);
        due("21: its number", full().row(rows - 1, 1), 3);
        due("21: behind the last", full().row(rows, 0), NONE);
    }

    /** Promise 22: "1 to 1440"; "NONE: it is gone. UNKNOWN." */
    private static void minutes() {
        inEmpty("22: minutes(0)", x -> x.minutes(0), UNKNOWN);
        int[] unknown = {LEAST, -1, 1, MOST};
        for (int e : unknown) {
            inSmall("22: minutes(" + e + ")", x -> x.minutes(e), UNKNOWN);
        }
        inFull("22: minutes(12)", x -> x.minutes(12), UNKNOWN);
        due("22: gone", small().minutes(0), NONE);
        due("22: the last", full().minutes(11), 1);
        int[] times = {0, 1, 720, 1438, 1439};
        for (int time : times) {
            TurnClock x = Worlds.at(time);
            x.deed(0, 0, 1);
            int[] ahead = {1, 2, 1439, 1440};
            for (int e = 0; e < 4; e++) {
                x.event(0, (time + ahead[e]) % 1440, true);
                due("22: at " + time, x.minutes(e), ahead[e]);
            }
        }
    }
}
