/** Promises 10 to 13: act, pace, and the parts of a turn; and turns that are taken back. */
public final class TurningTest {
    private static final int NONE = TurnClock.NONE, UNKNOWN = TurnClock.UNKNOWN;
    private static final int OUTSIDE = TurnClock.OUTSIDE, STATE = TurnClock.STATE;
    private static final int EVENT = 0, TIMER = 1, DAEMON = 2, WALKER = 3;
    private static final Check CHECK = new Check();

    public static void main(String[] args) {
        act();
        actOnWhatIsNotThere();
        actOfGoals();
        pace();
        clockAndSkip();
        eventsInOrder();
        eventsAcrossMidnight();
        eventsOnce();
        timersRing();
        timersStartedAndStopped();
        daemonsInOrder();
        walkersStep();
        walkersChoose();
        walkersNotAside();
        allDoors();
        turnEnds();
        turnEndsWithinAPriority();
        conditionsInATurn();
        fullRow();
        back();
        backFromAGoal();
        backUpToEight();
        backIsClosed();
        CHECK.end();
    }

    private static void due(String call, int got, int want) {
        CHECK.due(call, got, want);
    }

    private static void act() {
        TurnClock x = new TurnClock();
        due("10: no deeds", x.act(0), UNKNOWN);
        x.deed(0, 2, 5);
        x.deed(7, 0, 0);
        x.deed(3, 0, 0);
        x.daemon(0, 0);
        due("10: act(-1)", x.act(-1), UNKNOWN);
        due("10: act(3)", x.act(3), UNKNOWN);
        due("10: act(max)", x.act(Integer.MAX_VALUE), UNKNOWN);
        due("10: act(0)", x.act(0), 1);
        due("10: counter(2)", x.counter(2), 5);
        due("10: TURNS stay", x.told(2), 0);
        due("10: TIME stays", x.told(0), 0);
        due("10: THE ROW stays", x.told(6), 0);
        x.act(2);
        due("10: SORT 7", x.act(1), 1);
        due("10: ends no later turn", x.turn(), 1);
        x.condition(1, 0, 1);
        due("10: SORT 7, not held", x.act(1), 0);
    }

    private static void actOnWhatIsNotThere() {
        TurnClock x = new TurnClock();
        int[] far = {Integer.MIN_VALUE, -1, 0, 1, Integer.MAX_VALUE};
        for (int sort = 1; sort <= 6; sort++) {
            for (int number : far) {
                due("10: is done", x.act(x.deed(sort, number, number)), 1);
            }
        }
        due("10: deed", x.deed(1, 0, 0), 30);
        due("10: later there", x.timer(0, 9, true), 0);
        due("10: act", x.act(30), 1);
        due("10: is there then", x.left(0), 9);
    }

    private static void actOfGoals() {
        TurnClock x = new TurnClock();
        x.room();
        x.walker(0);
        x.deed(6, 0, 1);
        x.deed(6, 0, 0);
        x.deed(6, 0, 5);
        x.deed(6, 0, -1);
        due("10: room not there", x.act(0), 1);
        due("10: no goal", x.walks(0, 1), NONE);
        x.room();
        due("10: room there now", x.act(0), 1);
        due("10: goal", x.walks(0, 1), 1);
        x.act(2);
        x.act(3);
        due("10: rooms not there leave it", x.walks(0, 1), 1);
        x.act(1);
        due("10: it is there: none", x.walks(0, 1), NONE);
    }

    private static void pace() {
        TurnClock x = new TurnClock();
        due("11: pace(60)", x.pace(60), 1);
        due("11: pace(1)", x.pace(1), 60);
        due("11: pace(7)", x.pace(7), 1);
        int[] far = {Integer.MIN_VALUE, -1, 0, 61, Integer.MAX_VALUE};
        for (int n : far) {
            due("11: pace(" + n + ")", x.pace(n), OUTSIDE);
        }
        due("11: told(3)", x.told(3), 7);
        x.turn();
        due("11: TIME", x.told(0), 7);
    }

    private static void clockAndSkip() {
        TurnClock x = new TurnClock();
        x.deed(8, 0, 400);
        x.pace(60);
        x.act(0);
        x.turn();
        due("12: TIME by PACE and SKIP", x.told(0), 460);
        due("12: SKIP is 0", x.told(4), 0);
        x.act(0);
        x.act(0);
        due("12: SKIP to 600", x.told(4), 600);
        x.turn();
        due("12: TIME", x.told(0), 1120);
        for (int i = 0; i < 5; i++) {
            x.turn();
        }
        due("12: TIME", x.told(0), 1420);
        x.pace(19);
        x.turn();
        due("12: the last minute", x.told(0), 1439);
        due("12: DAY", x.told(1), 0);
        x.pace(1);
        x.turn();
        due("12: the first minute", x.told(0), 0);
        due("12: DAY", x.told(1), 1);
        due("12: TURNS", x.told(2), 9);
        x.daemon(0, 0);
        x.deed(3, 0, 0);
        x.act(1);
        x.turn();
        due("12: SKIP by a DAEMON is for the next", x.told(0), 1);
        due("12: SKIP", x.told(4), 400);
        x.turn();
        due("12: TIME", x.told(0), 402);
        due("12: SKIP anew", x.told(4), 400);
    }

    private static void eventsInOrder() {
        TurnClock x = new TurnClock();
        x.deed(0, 0, 1);
        int[] minutes = {5, 3, 10, 0, 3, 5, 11, 4};
        for (int minute : minutes) {
            x.event(0, minute, true);
        }
        x.pace(10);
        due("12a: turn()", x.turn(), 6);
        CHECK.dueRow("12a", x, EVENT, 1, EVENT, 4, EVENT, 7, EVENT, 0, EVENT, 5, EVENT, 2);
        due("12a: each is done", x.counter(0), 6);
        due("12a: turn()", x.turn(), 1);
        CHECK.dueRow("12a: behind the minute before", x, EVENT, 6);
    }

    private static void eventsAcrossMidnight() {
        TurnClock x = new TurnClock();
        x.deed(8, 0, 600);
        x.deed(0, 0, 1);
        x.pace(50);
        x.act(0);
        x.turn();
        x.act(0);
        x.turn();
        due("12a: TIME", x.told(0), 1300);
        int[] minutes = {0, 1439, 1300, 1301, 510, 511, 7, 1400};
        for (int minute : minutes) {
            x.event(1, minute, minute != 7);
        }
        x.act(0);
        due("12a: turn()", x.turn(), 6);
        due("12a: TIME", x.told(0), 510);
        due("12a: DAY", x.told(1), 1);
        CHECK.dueRow("12a: 0 behind 1439", x, EVENT, 3, EVENT, 7, EVENT, 1, EVENT, 0, EVENT, 6, EVENT, 4);
        due("12a: once", x.is(2, 6), 0);
        due("12a: minutes", x.minutes(4), 1440);
    }

    private static void eventsOnce() {
        TurnClock x = new TurnClock();
        x.deed(0, 0, 1);
        x.condition(0, 1, 1);
        x.deed(8, 0, 600);
        x.event(0, 5, false);
        x.event(0, 5, true);
        x.pace(60);
        due("12a: turn()", x.turn(), 2);
        due("12a: gone, though its CONDITION did not hold", x.is(2, 0), 0);
        due("12a: counter(0)", x.counter(0), 0);
        for (int i = 0; i < 3; i++) {
            x.act(1);
            x.turn();
        }
        due("12a: DAY", x.told(1), 1);
        CHECK.dueRow("12a: the daily one alone", x, EVENT, 1);
    }

    private static void timersRing() {
        TurnClock x = new TurnClock();
        x.deed(0, 0, 1);
        x.deed(1, 0, 0);
        x.deed(1, 1, 0);
        x.deed(2, 2, 0);
        x.deed(1, 2, 0);
        x.timer(0, 2, false);
        x.timer(0, 3, true);
        x.timer(3, 2, true);
        x.act(1);
        x.act(2);
        x.act(4);
        due("12b: turn()", x.turn(), 0);
        due("12b: left(0)", x.left(0), 1);
        due("12b: turn()", x.turn(), 2);
        CHECK.dueRow("12b", x, TIMER, 0, TIMER, 2);
        due("12b: not repeated", x.left(0), 0);
        due("12b: repeated, stopped by its own deed", x.left(2), 0);
        due("12b: turn()", x.turn(), 1);
        due("12b: repeated", x.left(1), 3);
        due("12b: counter(0)", x.counter(0), 2);
        x.act(2);
        x.turn();
        x.act(2);
        due("12b: started anew while it runs", x.left(1), 3);
    }

    private static void timersStartedAndStopped() {
        TurnClock x = new TurnClock();
        x.deed(1, 2, 0);
        x.deed(2, 3, 0);
        x.deed(1, 0, 0);
        x.deed(1, 1, 0);
        x.deed(1, 3, 0);
        x.deed(1, 4, 0);
        x.timer(0, 1, false);
        x.timer(1, 1, false);
        x.timer(2, 2, false);
        x.timer(2, 1, true);
        x.timer(5, 1, false);
        x.event(2, 1, false);
        x.event(3, 1, false);
        x.event(4, 1, false);
        x.event(0, 1, false);
        x.event(5, 1, false);
        due("12b: started in (a), they run in (b)", x.turn(), 8);
        CHECK.dueRow("12b", x, EVENT, 0, EVENT, 1, EVENT, 2, EVENT, 3, EVENT, 4, TIMER, 0, TIMER, 1, TIMER, 4);
        due("12b: started in (b), passed over", x.left(2), 2);
        due("12b: stopped in (b), passed over", x.left(3), 0);
        due("12b: started by itself as it rang", x.left(4), 1);
        due("12b: the next turn", x.turn(), 1);
        due("12b: runs in the next", x.left(2), 1);
        due("12b: and the next", x.turn(), 2);
        CHECK.dueRow("12b", x, TIMER, 2, TIMER, 4);
        due("12b: one of a lesser number, started", x.left(0), 1);
    }

    private static void daemonsInOrder() {
        TurnClock x = new TurnClock();
        for (int d = 0; d < 6; d++) {
            x.deed(3, d, 0);
        }
        x.deed(4, 4, 0);
        x.deed(0, 0, 1);
        x.daemon(7, 9);
        x.daemon(3, 4);
        x.daemon(5, 4);
        x.daemon(6, 7);
        x.daemon(7, 8);
        x.daemon(7, 0);
        x.act(0);
        x.act(1);
        x.act(2);
        x.act(4);
        due("12c: turn()", x.turn(), 4);
        CHECK.dueRow("12c: on and off as their turn comes", x, DAEMON, 1, DAEMON, 2, DAEMON, 3, DAEMON, 0);
        due("12c: switched on too late", x.is(0, 5), 1);
        due("12c: turn()", x.turn(), 5);
        CHECK.dueRow("12c: the lesser PRIORITY first", x, DAEMON, 5, DAEMON, 1, DAEMON, 2, DAEMON, 3, DAEMON, 0);
        due("12c: counter(0)", x.counter(0), 3);
    }

    private static void walkersStep() {
        TurnClock x = new TurnClock();
        for (int i = 0; i < 4; i++) { x.room(); }
        x.door(0, 1);
        x.door(1, 2);
        x.walker(0);
        x.walker(2);
        x.walker(2);
        x.deed(6, 0, 2);
        x.deed(6, 1, 3);
        x.deed(6, 2, 1);
        x.deed(5, 1, 0);
        x.act(0);
        x.act(1);
        x.act(2);
        due("12d: turn()", x.turn(), 2);
        CHECK.dueRow("12d: one stays", x, WALKER, 0, WALKER, 2);
        due("12d: a step", x.walks(0, 0), 1);
        due("12d: its goal", x.walks(0, 1), 2);
        due("12d: stays", x.walks(1, 0), 2);
        due("12d: keeps its goal", x.walks(1, 1), 3);
        due("12d: in its goal", x.walks(2, 0), 1);
        due("12d: has none any more", x.walks(2, 1), NONE);
        x.act(3);
        due("12d: the door is shut", x.turn(), 0);
        x.act(3);
        due("12d: open again", x.turn(), 1);
        due("12d: there", x.walks(0, 0), 2);
        due("12d: none any more", x.walks(0, 1), NONE);
        due("12d: nobody goes", x.turn(), 0);
    }

    private static void walkersChoose() {
        TurnClock x = new TurnClock();
        for (int i = 0; i < 7; i++) { x.room(); }
        x.door(6, 5);
        x.door(3, 6);
        x.door(6, 4);
        x.door(0, 6);
        x.door(5, 2);
        x.door(2, 4);
        x.door(3, 2);
        x.door(0, 1);
        x.door(6, 3);
        x.walker(6);
        x.deed(6, 0, 2);
        x.deed(5, 1, 0);
        x.deed(5, 8, 0);
        x.act(0);
        x.turn();
        due("12d: the least of several, not the dead end", x.walks(0, 0), 3);
        x.back();
        x.act(1);
        x.turn();
        due("12d: by the other door there", x.walks(0, 0), 3);
        x.back();
        x.act(2);
        x.turn();
        due("12d: the next", x.walks(0, 0), 4);
    }

    private static void walkersNotAside() {
        TurnClock x = new TurnClock();
        for (int i = 0; i < 4; i++) { x.room(); }
        x.door(2, 0);
        x.door(0, 3);
        x.door(3, 1);
        x.door(2, 3);
        x.walker(2);
        x.walker(1);
        x.act(x.deed(6, 0, 3));
        x.act(x.deed(6, 1, 2));
        x.turn();
        due("12d: to the goal, not to a lesser room that is as far", x.walks(0, 0), 3);
        due("12d: the first step", x.walks(1, 0), 3);
        x.turn();
        due("12d: to the goal, not by a lesser room", x.walks(1, 0), 2);
    }

    private static void allDoors() {
        TurnClock x = new TurnClock();
        for (int i = 0; i < 10; i++) { x.room(); }
        for (int i = 0; i < 15; i++) { x.door(i % 9, i % 9 + 1); }
        x.walker(9);
        x.act(x.deed(6, 0, 0));
        due("20: through all rooms", x.way(0, 9), 9);
        for (int i = 8; i >= 0; i--) {
            x.turn();
            due("12d: the long way", x.walks(0, 0), i);
        }
        due("12d: there", x.walks(0, 1), NONE);
    }

    private static void turnEndsWithinAPriority() {
        TurnClock x = new TurnClock();
        x.deed(0, 0, 1);
        x.deed(7, 0, 0);
        x.daemon(0, 4);
        x.daemon(1, 4);
        x.daemon(0, 4);
        x.daemon(0, 3);
        for (int d = 0; d < 4; d++) { x.act(x.deed(3, d, 0)); }
        due("12: turn()", x.turn(), 3);
        CHECK.dueRow("12: not even those of one PRIORITY", x, DAEMON, 3, DAEMON, 0, DAEMON, 1);
    }

    private static void turnEnds() {
        TurnClock x = new TurnClock();
        x.room();
        x.room();
        x.door(0, 1);
        x.walker(0);
        int end = x.deed(7, 0, 0);
        int grow = x.deed(0, 0, 1);
        int endHere = x.deed(7, 0, 0);
        x.condition(endHere, 1, 1);
        int growOne = x.deed(0, 1, 1);
        x.event(endHere, 2, false);
        x.event(grow, 3, false);
        x.timer(endHere, 1, true);
        x.timer(grow, 1, true);
        x.daemon(endHere, 1);
        x.daemon(grow, 1);
        x.daemon(end, 2);
        x.daemon(grow, 3);
        for (int t = 0; t < 2; t++) { x.act(x.deed(1, t, 0)); }
        for (int d = 0; d < 4; d++) { x.act(x.deed(3, d, 0)); }
        x.act(x.deed(6, 0, 1));
        due("12: turn()", x.turn(), 5);
        CHECK.dueRow("12: ENDS in (c), no walker goes", x, TIMER, 0, TIMER, 1, DAEMON, 0, DAEMON, 1, DAEMON, 2);
        due("12: the walker", x.walks(0, 0), 0);
        x.act(growOne);
        x.pace(10);
        due("12: turn()", x.turn(), 1);
        CHECK.dueRow("12: ENDS in (a)", x, EVENT, 0);
        due("12: TIME has gone on", x.told(0), 11);
        due("12: TURNS", x.told(2), 2);
        due("12: this EVENT came", x.is(2, 0), 0);
        due("12: nothing more was done, so the next is not gone", x.is(2, 1), 1);
        due("12: counter(0)", x.counter(0), 2);
        due("12: turn()", x.turn(), 1);
        CHECK.dueRow("12: ENDS in (b)", x, TIMER, 0);
        due("12: repeated all the same", x.left(0), 1);
        due("12: not gone on", x.left(1), 1);
    }

    private static void conditionsInATurn() {
        TurnClock x = new TurnClock();
        x.deed(0, 0, 1);
        x.deed(0, 1, 1);
        x.condition(1, 0, 2);
        x.daemon(1, 0);
        x.daemon(0, 1);
        x.daemon(1, 2);
        for (int d = 0; d < 3; d++) { x.act(x.deed(3, d, 0)); }
        due("12: not held counts as done", x.turn(), 3);
        due("12: counter(1)", x.counter(1), 0);
        due("12: turn()", x.turn(), 3);
        due("12: looked at when it is done", x.counter(1), 1);
    }

    private static void fullRow() {
        TurnClock x = new TurnClock();
        x.room();
        x.room();
        x.door(0, 1);
        x.deed(0, 0, 1);
        x.deed(0, 0, 0);
        for (int i = 0; i < 12; i++) {
            x.event(0, 1, true);
            x.timer(0, 1, true);
            x.daemon(0, i % 10);
            x.act(x.deed(1, i, 0));
            x.act(x.deed(3, i, 0));
        }
        for (int i = 0; i < 4; i++) {
            x.walker(0);
            x.act(x.deed(6, i, 1));
        }
        due("12: all in one turn", x.turn(), 40);
        due("12: counter(0)", x.counter(0), 36);
        due("12: the last row", x.row(39, 0), WALKER);
        due("12: the last row", x.row(39, 1), 3);
        due("12: no more", x.row(40, 0), NONE);
        due("13: back()", x.back(), 0);
        due("13: THE ROW", x.told(6), 0);
    }

    private static void back() {
        TurnClock x = new TurnClock();
        x.room();
        x.room();
        x.door(0, 1);
        x.walker(0);
        x.deed(0, 3, 7);
        x.deed(5, 0, 0);
        x.deed(3, 1, 0);
        x.deed(1, 0, 0);
        x.deed(8, 0, 600);
        x.deed(6, 0, 1);
        x.event(0, 1, false);
        x.event(2, 2, false);
        x.event(3, 2, false);
        x.event(4, 3, false);
        x.event(1, 700, false);
        x.timer(0, 5, false);
        x.daemon(0, 0);
        x.daemon(4, 0);
        x.event(5, 2, false);
        x.pace(3);
        due("13: none yet", x.back(), STATE);
        due("12: turn()", x.turn(), 7);
        x.turn();
        x.turn();
        due("12: TIME", x.told(0), 1209);
        x.turn();
        due("12: DAY", x.told(1), 1);
        due("12: door", x.is(1, 0), 0);
        due("13: back()", x.back(), 3);
        due("13: DAY", x.told(1), 0);
        due("13: TIME", x.told(0), 1209);
        due("13: SKIP", x.told(4), 600);
        CHECK.dueRow("13", x, EVENT, 4, DAEMON, 1);
        due("13: back()", x.back(), 2);
        due("13: door", x.is(1, 0), 1);
        due("13: event", x.is(2, 4), 1);
        due("13: left", x.left(0), 3);
        due("13: walker", x.walks(0, 0), 1);
        due("13: TURNS", x.told(2), 2);
        due("13: back()", x.back(), 1);
        due("13: left", x.left(0), 4);
        CHECK.dueRow("13", x, EVENT, 0, EVENT, 1, EVENT, 2, EVENT, 5, EVENT, 3, DAEMON, 1, WALKER, 0);
        due("13: back()", x.back(), 0);
        due("13: counter", x.counter(3), 0);
        due("13: daemon", x.is(0, 1), 0);
        due("13: event", x.is(2, 0), 1);
        due("13: left", x.left(0), 0);
        due("13: walker", x.walks(0, 0), 0);
        due("13: goal", x.walks(0, 1), NONE);
        due("13: SKIP", x.told(4), 0);
        due("13: PACE stays", x.told(3), 3);
        CHECK.dueRow("13: empty ahead of the first", x);
        due("13: no more", x.back(), STATE);
        due("13: the same again", x.turn(), 7);
    }

    private static void backFromAGoal() {
        TurnClock x = new TurnClock();
        x.room();
        x.room();
        x.door(0, 1);
        x.walker(0);
        x.act(x.deed(6, 0, 1));
        x.turn();
        due("13: in its goal", x.walks(0, 1), NONE);
        due("13: back()", x.back(), 0);
        due("13: its goal again", x.walks(0, 1), 1);
        due("13: its room again", x.walks(0, 0), 0);
    }

    private static void backUpToEight() {
        TurnClock x = new TurnClock();
        for (int i = 1; i <= 20; i++) {
            x.turn();
            due("13: told(5)", x.told(5), Math.min(i, 8));
        }
        due("13: back()", x.back(), 7);
        due("13: back()", x.back(), 6);
        due("13: TURNS", x.told(2), 18);
        x.turn();
        due("13: told(5)", x.told(5), 7);
        for (int i = 6; i >= 0; i--) {
            due("13: back()", x.back(), i);
            due("13: TIME", x.told(0), 12 + i);
        }
        due("13: no more than eight", x.back(), STATE);
        due("13: refused, it changes nothing", x.told(2), 12);
    }

    private static void backIsClosed() {
        TurnClock x = new TurnClock();
        x.room();
        x.room();
        x.deed(0, 0, 1);
        x.deed(0, 0, 1);
        x.condition(1, 7, 1);
        for (int call = 0; call < 12; call++) {
            x.turn();
            x.turn();
            due("13: two", x.told(5), 2);
            callNotRefused(x, call);
            due("13: none ahead of call " + call, x.told(5), 0);
            due("13: back()", x.back(), STATE);
            x.turn();
            due("13: one behind it", x.back(), 0);
        }
        for (int i = 0; i < 10; i++) { x.room(); }
        x.turn();
        callsRefusedOrTelling(x);
        due("13: refused and telling calls leave it", x.told(5), 1);
        due("13: back()", x.back(), 0);
    }

    private static void callNotRefused(TurnClock x, int call) {
        switch (call) {
            case 0: x.room(); break;
            case 1: x.door(0, 1); break;
            case 2: x.walker(0); break;
            case 3: x.deed(0, 0, 1); break;
            case 4: x.condition(0, NONE, 0); break;
            case 5: x.event(0, 0, true); break;
            case 6: x.timer(0, 1, true); break;
            case 7: x.daemon(0, 0); break;
            case 8: x.act(0); break;
            case 9: due("13: not held is not refused", x.act(1), 0); break;
            case 10: x.pace(2); break;
            default: due("13: the same PACE", x.pace(2), 2); break;
        }
    }

    private static void callsRefusedOrTelling(TurnClock x) {
        due("2: refused", x.room(), TurnClock.ROOM);
        x.door(0, 0);
        x.door(0, 10);
        x.walker(10);
        x.deed(9, 0, 0);
        x.condition(0, 8, 0);
        x.condition(9, 0, 0);
        x.event(0, 1440, true);
        x.timer(0, 0, true);
        x.daemon(0, 10);
        x.act(9);
        x.pace(0);
        x.told(0);
        x.count(0);
        x.counter(0);
        x.left(0);
        x.is(0, 0);
        x.walks(0, 0);
        x.way(0, 1);
        x.row(0, 0);
        x.minutes(0);
    }
}
