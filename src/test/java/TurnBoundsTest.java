/** The boundary cases of "A TURN", sentence by sentence: (a) to (d), a turn that ENDS, and THE ROW. */
public final class TurnBoundsTest {
    private static final int NONE = TurnClock.NONE;
    private static final int EVENT = 0, TIMER = 1, DAEMON = 2, WALKER = 3;
    private static final Check CHECK = new Check();

    public static void main(String[] args) {
        eventsOfTheMinutes();
        eventsOfTheFirstTurn();
        eventsWhereTheDayBegins();
        eventsByMinuteThenNumber();
        eventsOnceAndDaily();
        eventsAreDoneInThatOrder();
        timersOfEachLength();
        timersThatRepeat();
        timersStartedInA();
        timersStartedInB();
        timersStartedAnewInB();
        timersStoppedInB();
        timersStoppedAndStartedInB();
        timersOfTheirOwnDeed();
        timersStartedInC();
        daemonsOfEachPriority();
        daemonsAsTheirTurnComes();
        daemonsOfTheirOwnDeed();
        walkersOfOneStep();
        walkersWithoutAWay();
        walkersIntoTheLeast();
        walkersByNumbers();
        walkersBehindDeeds();
        endsInA();
        endsInB();
        endsInC();
        endsAtTheLastOfAPart();
        endsNotWithoutItsCondition();
        endsThisTurnAlone();
        rowOfNothing();
        rowOfAll();
        rowOfConditions();
        CHECK.end();
    }

    private static void due(String call, int got, int want) {
        CHECK.due(call, got, want);
    }

    /** An object with one DEED: COUNTER 0 grows by 1. */
    private static TurnClock withGrow() {
        TurnClock x = new TurnClock();
        x.deed(0, 0, 1);
        return x;
    }

    private static void start(TurnClock x, int timer) {
        x.act(x.deed(1, timer, 0));
    }

    private static void switchOn(TurnClock x, int daemon) {
        x.act(x.deed(3, daemon, 0));
    }

    private static void send(TurnClock x, int walker, int room) {
        x.act(x.deed(6, walker, room));
    }

    /** "behind the minute before, up to the new one": from so many minutes on, at each TIME. */
    private static void eventsOfTheMinutes() {
        int[] times = {0, 1, 700, 779, 780, 781, 1379, 1380, 1438, 1439};
        int[] steps = {1, 2, 60, 61, 660};
        for (int time : times) {
            for (int step : steps) {
                TurnClock x = Worlds.at(time);
                x.deed(0, 0, 1);
                int[] ahead = {1440, 1, step, step + 1};
                for (int a : ahead) {
                    x.event(0, (time + a) % 1440, true);
                }
                String what = "TIME " + time + ", step " + step;
                due(what, Worlds.goOn(x, step), 2);
                CHECK.dueRow(what + ": the first and the last minute", x, EVENT, 1, EVENT, 2);
                due(what + ": the minute before comes a day later", x.minutes(0), 1440 - step);
                due(what + ": the new one came just now", x.minutes(2), 1440);
                due(what + ": the one behind it is next", x.minutes(3), 1);
                Worlds.goOn(x, 1);
                CHECK.dueRow(what + ": and comes then", x, EVENT, 3);
            }
        }
    }

    /** At first TIME is 0: MINUTE 0 comes only as the day begins anew. */
    private static void eventsOfTheFirstTurn() {
        TurnClock x = withGrow();
        x.event(0, 0, false);
        due("12a: minutes(0)", x.minutes(0), 1440);
        x.pace(60);
        for (int i = 0; i < 23; i++) {
            due("12a: not in turn " + i, x.turn(), 0);
        }
        due("12a: TIME", x.told(0), 1380);
        due("12a: as the day begins anew", x.turn(), 1);
        due("12a: TIME", x.told(0), 0);
        due("12a: gone", x.is(2, 0), 0);
    }

    /** "where the day began anew, from 0 on again": 1439 comes ahead of 0. */
    private static void eventsWhereTheDayBegins() {
        int[][] goes = {{1439, 1, 0, 1}, {1438, 1, 1439, 1}, {1438, 2, 0, 2}, {1438, 3, 1, 3},
            {1380, 60, 0, 2}, {1379, 60, 1439, 1}, {1439, 2, 1, 2}};
        for (int[] g : goes) {
            TurnClock x = Worlds.at(g[0]);
            x.deed(0, 0, 1);
            x.event(0, 1, true);
            x.event(0, 0, true);
            x.event(0, 1439, true);
            String what = "TIME " + g[0] + ", step " + g[1];
            due(what, Worlds.goOn(x, g[1]), g[3]);
            due(what + ": TIME", x.told(0), g[2]);
            int first = g[0] < 1439 ? 2 : 1;
            for (int i = 0; i < g[3]; i++) {
                due(what + ": row " + i, x.row(i, 1), first - i);
            }
        }
    }

    /** "in the order in which these came, of one MINUTE by their numbers": twelve of them, and across midnight. */
    private static void eventsByMinuteThenNumber() {
        TurnClock x = Worlds.at(1400);
        x.deed(0, 0, 1);
        int[] minutes = {3, 1439, 0, 1401, 3, 0, 1439, 1401, 619, 620, 1400, 619};
        for (int m : minutes) {
            x.event(0, m, true);
        }
        due("12a: largest step", Worlds.goOn(x, 659), 10);
        CHECK.dueRow("12a", x, EVENT, 3, EVENT, 7, EVENT, 1, EVENT, 6, EVENT, 2, EVENT, 5,
            EVENT, 0, EVENT, 4, EVENT, 8, EVENT, 11);
        TurnClock y = withGrow();
        for (int e = 0; e < 12; e++) {
            y.event(0, 12 - e, true);
        }
        due("12a: twelve", Worlds.goOn(y, 12), 12);
        for (int i = 0; i < 12; i++) {
            due("12a: each behind the one of a greater number", y.row(i, 1), 11 - i);
        }
        TurnClock z = withGrow();
        for (int e = 0; e < 12; e++) {
            z.event(0, 1, true);
        }
        due("12a: twelve of one MINUTE", z.turn(), 12);
        for (int i = 0; i < 12; i++) {
            due("12a: by their numbers", z.row(i, 1), i);
        }
    }

    /** "DAILY or once (gone when it came)"; "EVENTS (not gone)". */
    private static void eventsOnceAndDaily() {
        TurnClock x = withGrow();
        x.deed(8, 0, 600);
        x.event(0, 1, false);
        x.event(0, 1, true);
        x.event(0, 2, false);
        due("12a: turn()", x.turn(), 2);
        due("12a: once, and it came", x.is(2, 0), 0);
        due("12a: daily", x.is(2, 1), 1);
        due("12a: once, not yet", x.is(2, 2), 1);
        due("12a: NONE", x.minutes(0), NONE);
        due("13: back()", x.back(), 0);
        due("13: not gone any more", x.is(2, 0), 1);
        due("12a: turn()", x.turn(), 2);
        x.pace(60);
        for (int day = 1; day <= 3; day++) {
            for (int i = 0; i < 23; i++) {
                x.turn();
            }
            due("12a: a day later", x.turn(), 1);
            due("12a: the daily one alone", x.row(0, 1), 1);
            due("12a: TIME", x.told(0), 1);
            due("12a: gone ones stay gone", x.is(2, 0) + x.is(2, 2), 0);
        }
        due("12a: done so often", x.counter(0), 2 + 1 + 3);
    }

    /** Each sees what those ahead of it did. */
    private static void eventsAreDoneInThatOrder() {
        TurnClock x = new TurnClock();
        int grow = x.deed(0, 0, 1);
        int ifTwo = x.deed(0, 1, 1);
        x.condition(ifTwo, 0, 2);
        x.event(ifTwo, 5, true);
        x.event(grow, 5, true);
        x.event(ifTwo, 4, true);
        x.event(grow, 4, true);
        x.pace(5);
        due("12a: turn()", x.turn(), 4);
        due("12a: by the second of 4, only one had grown", x.counter(1), 0);
        due("12a: both have", x.counter(0), 2);
        x.event(ifTwo, 6, true);
        x.turn();
        due("12a: two by then", x.counter(1), 1);
    }

    /** "LEFT is one less; if that is 0, it RINGS": LENGTH 1 at once, 50 in the fiftieth turn. */
    private static void timersOfEachLength() {
        int[] lengths = {1, 2, 49, 50};
        for (int length : lengths) {
            TurnClock x = withGrow();
            x.timer(0, length, false);
            start(x, 0);
            for (int left = length; left > 1; left--) {
                due("12b: LEFT", x.left(0), left);
                due("12b: it does not ring yet", x.turn(), 0);
            }
            due("12b: one turn more", x.left(0), 1);
            due("12b: LENGTH " + length + " rings", x.turn(), 1);
            due("12b: not repeated, it does not run", x.left(0), 0);
            due("12b: its DEED is done", x.counter(0), 1);
            due("12b: never again", x.turn(), 0);
            due("12b: LEFT is 0, not less", x.left(0), 0);
        }
    }

    /** "LEFT is its LENGTH, if it is REPEATED". */
    private static void timersThatRepeat() {
        int[] lengths = {1, 2, 50};
        for (int length : lengths) {
            TurnClock x = withGrow();
            x.timer(0, length, true);
            start(x, 0);
            for (int i = 1; i <= 2 * length; i++) {
                boolean rings = i % length == 0;
                due("12b: LENGTH " + length + ", turn " + i, x.turn(), rings ? 1 : 0);
                due("12b: LEFT", x.left(0), rings ? length : length - i % length);
            }
            due("12b: twice", x.counter(0), 2);
        }
    }

    /** "TIMERS that run as this begins": one that (a) has started runs, one that (a) has stopped does not. */
    private static void timersStartedInA() {
        TurnClock x = withGrow();
        x.timer(0, 1, false);
        x.timer(0, 2, false);
        x.timer(0, 1, false);
        x.event(x.deed(1, 0, 0), 1, false);
        x.event(x.deed(1, 1, 0), 1, false);
        x.event(x.deed(2, 2, 0), 1, false);
        start(x, 2);
        due("12b: turn()", x.turn(), 4);
        CHECK.dueRow("12b", x, EVENT, 0, EVENT, 1, EVENT, 2, TIMER, 0);
        due("12b: one less already", x.left(1), 1);
        due("12b: stopped", x.left(2), 0);
    }

    /** "one that was started in this (b) is passed over", on both sides of the one that does it. */
    private static void timersStartedInB() {
        TurnClock x = withGrow();
        x.timer(0, 1, false);
        int startFirst = x.deed(1, 0, 0);
        int startLast = x.deed(1, 3, 0);
        x.timer(startLast, 1, false);
        x.timer(startFirst, 1, false);
        x.timer(0, 1, false);
        start(x, 1);
        start(x, 2);
        due("12b: turn()", x.turn(), 2);
        CHECK.dueRow("12b", x, TIMER, 1, TIMER, 2);
        due("12b: one of a lesser number", x.left(0), 1);
        due("12b: one of a greater number", x.left(3), 1);
        due("12b: in the next turn they run", x.turn(), 2);
        CHECK.dueRow("12b", x, TIMER, 0, TIMER, 3);
    }

    /** One that runs, too, is passed over once it was started anew; its LEFT is the whole LENGTH. */
    private static void timersStartedAnewInB() {
        TurnClock x = withGrow();
        x.timer(x.deed(1, 1, 0), 1, true);
        x.timer(0, 2, false);
        x.timer(x.deed(1, 1, 0), 3, false);
        start(x, 0);
        start(x, 1);
        for (int i = 0; i < 3; i++) {
            due("12b: it never rings", x.turn(), 1);
            due("12b: the whole LENGTH", x.left(1), 2);
        }
        x.act(x.deed(2, 0, 0));
        start(x, 2);
        x.turn();
        due("12b: not started any more", x.left(1), 1);
        due("12b: rings", x.turn(), 1);
        due("12b: the last one's", x.row(0, 1), 1);
        due("12b: started by one of a greater number", x.turn(), 1);
        due("12b: the whole LENGTH", x.left(1), 2);
    }

    /** "one that does not run any more is passed over". */
    private static void timersStoppedInB() {
        TurnClock x = withGrow();
        x.timer(0, 1, true);
        x.timer(x.deed(2, 2, 0), 1, false);
        x.timer(0, 1, true);
        x.timer(x.deed(2, 0, 0), 1, false);
        for (int t = 0; t < 4; t++) {
            start(x, t);
        }
        due("12b: turn()", x.turn(), 3);
        CHECK.dueRow("12b", x, TIMER, 0, TIMER, 1, TIMER, 3);
        due("12b: one of a greater number did not ring", x.left(2), 0);
        due("12b: one of a lesser number rang, and was stopped", x.left(0), 0);
        due("12b: nothing runs", x.turn(), 0);
    }

    /** Stopped and then started, or started and then stopped, in the same (b): passed over each way. */
    private static void timersStoppedAndStartedInB() {
        TurnClock x = withGrow();
        int startLast = x.deed(1, 4, 0);
        int stopLast = x.deed(2, 4, 0);
        x.timer(stopLast, 1, false);
        x.timer(startLast, 1, false);
        x.timer(stopLast, 1, false);
        x.timer(0, 1, false);
        x.timer(0, 2, false);
        start(x, 0);
        start(x, 1);
        start(x, 4);
        due("12b: turn()", x.turn(), 2);
        due("12b: stopped, then started: the whole LENGTH", x.left(4), 2);
        start(x, 1);
        start(x, 2);
        due("12b: turn()", x.turn(), 2);
        due("12b: started, then stopped", x.left(4), 0);
        due("12b: nothing runs", x.turn(), 0);
    }

    /** "LEFT is its LENGTH, if it is REPEATED; then its DEED is done": it may stop or start itself. */
    private static void timersOfTheirOwnDeed() {
        TurnClock x = new TurnClock();
        for (int t = 0; t < 4; t++) {
            x.timer(x.deed(t < 2 ? 2 : 1, t, 0), 3, t % 2 == 1);
            start(x, t);
        }
        x.turn();
        x.turn();
        due("12b: all ring", x.turn(), 4);
        due("12b: once, stopped", x.left(0), 0);
        due("12b: repeated, stopped", x.left(1), 0);
        due("12b: once, started", x.left(2), 3);
        due("12b: repeated, started", x.left(3), 3);
        due("12b: turn()", x.turn(), 0);
        due("12b: it runs", x.left(2), 2);
        due("12b: it runs", x.left(3), 2);
    }

    /** What (c) starts runs in the next turn's (b), what act starts too. */
    private static void timersStartedInC() {
        TurnClock x = withGrow();
        x.timer(0, 1, false);
        x.daemon(x.deed(1, 0, 0), 0);
        switchOn(x, 0);
        due("12c: turn()", x.turn(), 1);
        due("12c: not one less yet", x.left(0), 1);
        due("12b: rings in the next", x.turn(), 2);
        CHECK.dueRow("12b", x, TIMER, 0, DAEMON, 0);
    }

    /** "DAEMONS by PRIORITY, the lesser first, of one PRIORITY by numbers": 0 to 9. */
    private static void daemonsOfEachPriority() {
        TurnClock x = withGrow();
        int[] priorities = {9, 8, 7, 6, 5, 4, 3, 2, 1, 0, 9, 0};
        for (int d = 0; d < 12; d++) {
            x.daemon(0, priorities[d]);
            switchOn(x, d);
        }
        due("12c: turn()", x.turn(), 12);
        int[] order = {9, 11, 8, 7, 6, 5, 4, 3, 2, 1, 0, 10};
        for (int i = 0; i < 12; i++) {
            due("12c: a DAEMON", x.row(i, 0), DAEMON);
            due("12c: row " + i, x.row(i, 1), order[i]);
        }
        due("12c: each once", x.counter(0), 12);
    }

    /** "each that is on as its turn comes". */
    private static void daemonsAsTheirTurnComes() {
        TurnClock x = withGrow();
        x.daemon(0, 4);
        x.daemon(0, 5);
        x.daemon(0, 6);
        x.daemon(0, 4);
        x.daemon(x.deed(3, 0, 0), 5);
        x.daemon(x.deed(3, 2, 0), 5);
        x.daemon(x.deed(4, 3, 0), 5);
        x.daemon(x.deed(4, 8, 0), 5);
        x.daemon(0, 6);
        x.daemon(x.deed(3, 1, 0), 5);
        int[] first = {3, 4, 5, 6, 7, 8, 9};
        for (int d : first) {
            switchOn(x, d);
        }
        due("12c: turn()", x.turn(), 7);
        CHECK.dueRow("12c", x, DAEMON, 3, DAEMON, 4, DAEMON, 5, DAEMON, 6, DAEMON, 7, DAEMON, 9, DAEMON, 2);
        due("12c: on too late by PRIORITY", x.is(0, 0), 1);
        due("12c: on too late by number", x.is(0, 1), 1);
        due("12c: off behind its turn", x.is(0, 3), 0);
        due("12c: turn()", x.turn(), 8);
        CHECK.dueRow("12c", x, DAEMON, 0, DAEMON, 1, DAEMON, 4, DAEMON, 5, DAEMON, 6, DAEMON, 7, DAEMON, 9, DAEMON, 2);
    }

    /** One that switches itself off is done once; one that switches itself on, once a turn. */
    private static void daemonsOfTheirOwnDeed() {
        TurnClock x = new TurnClock();
        x.daemon(x.deed(4, 0, 0), 0);
        x.daemon(x.deed(3, 1, 0), 0);
        due("12c: both are off at first", x.turn(), 0);
        switchOn(x, 0);
        switchOn(x, 1);
        due("12c: turn()", x.turn(), 2);
        due("12c: turn()", x.turn(), 1);
        CHECK.dueRow("12c", x, DAEMON, 1);
    }

    /** "it goes through one open DOOR"; "In its GOAL it has none any more." */
    private static void walkersOfOneStep() {
        TurnClock x = new TurnClock();
        for (int i = 0; i < 10; i++) {
            x.room();
        }
        for (int i = 0; i < 9; i++) {
            x.door(i, i + 1);
        }
        x.walker(0);
        x.walker(8);
        send(x, 0, 9);
        send(x, 1, 9);
        for (int i = 1; i <= 9; i++) {
            due("12d: turn " + i, x.turn(), i == 1 ? 2 : 1);
            due("12d: a step each", x.walks(0, 0), i);
            due("12d: the GOAL", x.walks(0, 1), i == 9 ? NONE : 9);
            due("12d: one step was enough", x.walks(1, 0), 9);
            due("12d: it has none any more", x.walks(1, 1), NONE);
        }
        due("12d: nobody goes", x.turn(), 0);
        due("12d: it stays there", x.walks(0, 0), 9);
    }

    /** "it stays, if there is no way": no DOOR, a shut one, one that leads elsewhere. */
    private static void walkersWithoutAWay() {
        TurnClock x = new TurnClock();
        for (int i = 0; i < 4; i++) {
            x.room();
        }
        x.walker(0);
        send(x, 0, 3);
        due("12d: no DOOR", x.turn(), 0);
        x.door(0, 1);
        x.door(2, 3);
        due("12d: none that leads there", x.turn(), 0);
        int middle = x.door(1, 2);
        int turnMiddle = x.deed(5, middle, 0);
        x.act(turnMiddle);
        due("12d: one is shut further on", x.turn(), 0);
        due("20: no way", x.way(0, 3), NONE);
        due("12d: it stays", x.walks(0, 0), 0);
        due("12d: its GOAL stays", x.walks(0, 1), 3);
        x.act(turnMiddle);
        due("12d: a way", x.turn(), 1);
        due("12d: a step", x.walks(0, 0), 1);
        x.act(turnMiddle);
        due("12d: shut ahead of it", x.turn(), 0);
        due("12d: it stays there", x.walks(0, 0), 1);
    }

    /** "so that fewest are left to its GOAL, of several ROOMS into the one of the least number". */
    private static void walkersIntoTheLeast() {
        TurnClock x = new TurnClock();
        for (int i = 0; i < 10; i++) {
            x.room();
        }
        int[][] sides = {{9, 8}, {9, 3}, {5, 9}, {8, 1}, {1, 5}, {3, 1}, {9, 0}, {0, 2}, {2, 1}};
        for (int[] s : sides) {
            x.door(s[0], s[1]);
        }
        x.walker(9);
        x.walker(1);
        send(x, 0, 1);
        send(x, 1, 9);
        x.turn();
        due("12d: 3 of 3, 5, 8; not 0, from which more are left", x.walks(0, 0), 3);
        due("12d: the other way round", x.walks(1, 0), 3);
        x.back();
        x.act(x.deed(5, 1, 0));
        x.turn();
        due("12d: 5 of 5, 8, by a DOOR told the other way", x.walks(0, 0), 5);
        due("12d: 5, too", x.walks(1, 0), 5);
        x.back();
        x.act(x.deed(5, 2, 0));
        x.act(x.deed(5, 0, 0));
        x.turn();
        due("12d: 0, if no other is open", x.walks(0, 0), 0);
        due("12d: 2, if no other leads there", x.walks(1, 0), 2);
    }

    /** "WALKERS by numbers, each with a GOAL": four of them, and those without one are passed over. */
    private static void walkersByNumbers() {
        TurnClock x = new TurnClock();
        x.room();
        x.room();
        x.door(1, 0);
        for (int w = 0; w < 4; w++) {
            x.walker(w % 2);
        }
        for (int w = 3; w >= 0; w--) {
            send(x, w, 1 - w % 2);
        }
        due("12d: turn()", x.turn(), 4);
        CHECK.dueRow("12d", x, WALKER, 0, WALKER, 1, WALKER, 2, WALKER, 3);
        send(x, 1, 1);
        send(x, 3, 0);
        due("12d: one with a GOAL elsewhere, one with the GOAL where it is", x.turn(), 1);
        CHECK.dueRow("12d", x, WALKER, 1);
    }

    /** (d) comes behind (a) to (c): GOALS and DOORS are as these have left them. */
    private static void walkersBehindDeeds() {
        TurnClock x = new TurnClock();
        x.room();
        x.room();
        x.door(0, 1);
        x.walker(0);
        x.daemon(x.deed(6, 0, 1), 9);
        x.event(x.deed(5, 0, 0), 2, false);
        switchOn(x, 0);
        due("12d: the GOAL of this turn", x.turn(), 2);
        due("12d: there", x.walks(0, 0), 1);
        x.back();
        x.pace(2);
        due("12d: the DOOR was shut in this turn", x.turn(), 2);
        CHECK.dueRow("12d", x, EVENT, 0, DAEMON, 0);
        due("12d: not there", x.walks(0, 0), 0);
    }

    /** All four parts have something to do behind what ENDS the turn. */
    private static TurnClock allAtOnce() {
        TurnClock x = new TurnClock();
        x.room();
        x.room();
        x.door(0, 1);
        x.walker(0);
        x.deed(0, 0, 1);
        x.deed(7, 0, 0);
        send(x, 0, 1);
        return x;
    }

    private static void moreOfAll(TurnClock x) {
        x.event(0, 5, false);
        x.timer(0, 1, true);
        x.daemon(0, 5);
        start(x, x.count(5) - 1);
        switchOn(x, x.count(6) - 1);
    }

    /** "When the turn ENDS, nothing more of (a) to (d) is done in it": the clock has gone on, though. */
    private static void endsInA() {
        TurnClock x = allAtOnce();
        x.event(1, 5, false);
        moreOfAll(x);
        x.event(0, 4, false);
        x.act(x.deed(8, 0, 7));
        due("12: ENDS in (a)", x.turn(), 2);
        CHECK.dueRow("12", x, EVENT, 2, EVENT, 0);
        due("12: TIME", x.told(0), 8);
        due("12: SKIP", x.told(4), 0);
        due("12: TURNS", x.told(2), 1);
        due("12: only what came ahead of it", x.counter(0), 1);
        due("12: done, so gone", x.is(2, 0) + x.is(2, 2), 0);
        due("12: not done, so not gone", x.is(2, 1), 1);
        due("12: LEFT is not one less", x.left(0), 1);
        due("12: nobody has gone", x.walks(0, 0), 0);
        due("13: back()", x.back(), 0);
        due("13: TIME", x.told(0), 0);
        due("13: SKIP", x.told(4), 7);
        due("13: not gone", x.is(2, 0) + x.is(2, 2), 2);
    }

    private static void endsInB() {
        TurnClock x = allAtOnce();
        x.timer(0, 1, true);
        x.timer(1, 1, true);
        start(x, 0);
        start(x, 1);
        moreOfAll(x);
        due("12: ENDS in (b)", x.turn(), 2);
        CHECK.dueRow("12", x, TIMER, 0, TIMER, 1);
        due("12: it rang, so it is repeated", x.left(1), 1);
        due("12: LEFT is not one less", x.left(2), 1);
        due("12: only what came ahead of it", x.counter(0), 1);
        due("12: nobody has gone", x.walks(0, 0), 0);
        due("12: and in the next turn anew", x.turn(), 2);
    }

    private static void endsInC() {
        TurnClock x = allAtOnce();
        x.daemon(0, 5);
        x.daemon(1, 5);
        switchOn(x, 0);
        switchOn(x, 1);
        moreOfAll(x);
        x.daemon(0, 4);
        x.daemon(0, 6);
        switchOn(x, 3);
        switchOn(x, 4);
        due("12: ENDS in (c)", x.turn(), 4);
        CHECK.dueRow("12", x, TIMER, 0, DAEMON, 3, DAEMON, 0, DAEMON, 1);
        due("12: nobody has gone", x.walks(0, 0), 0);
        due("12: its GOAL stays", x.walks(0, 1), 1);
    }

    /** The last of a part ENDS the turn, too: the next part is not begun. */
    private static void endsAtTheLastOfAPart() {
        for (int part = 0; part < 3; part++) {
            TurnClock x = allAtOnce();
            if (part == 0) { x.event(1, 1, false); }
            moreOfAll(x);
            if (part == 1) { x.timer(1, 1, false); start(x, 1); }
            if (part == 2) { x.daemon(1, 9); switchOn(x, 1); }
            due("12: ENDS at the end of part " + part, x.turn(), part + 1);
            due("12: its last row", x.row(part, 0), part);
            due("12: nobody has gone", x.walks(0, 0), 0);
            due("12: LEFT", x.left(0), 1);
        }
    }

    /** A DEED of SORT 7 whose CONDITION does not hold ENDS nothing; at its least it does. */
    private static void endsNotWithoutItsCondition() {
        TurnClock x = allAtOnce();
        x.condition(1, 1, 1);
        x.event(1, 1, true);
        moreOfAll(x);
        x.timer(1, 1, true);
        start(x, 1);
        x.daemon(1, 0);
        switchOn(x, 1);
        due("12: all is done", x.turn(), 6);
        CHECK.dueRow("12", x, EVENT, 0, TIMER, 0, TIMER, 1, DAEMON, 1, DAEMON, 0, WALKER, 0);
        Worlds.setCounter(x, 1, 1);
        due("12: ENDS in (b)", x.turn(), 2);
        CHECK.dueRow("12", x, TIMER, 0, TIMER, 1);
    }

    /** The next turn is not ended, nor one behind an act of SORT 7 ("SORT 7 does nothing then"), nor behind back. */
    private static void endsThisTurnAlone() {
        TurnClock x = allAtOnce();
        x.event(1, 1, false);
        moreOfAll(x);
        due("12: ENDS", x.turn(), 1);
        due("12: the next does not", x.turn(), 3);
        due("13: back()", x.back(), 1);
        due("12: nor behind back()", x.turn(), 3);
        due("13: back()", x.back(), 1);
        due("13: back()", x.back(), 0);
        due("12: ENDS again", x.turn(), 1);
        due("10: act of SORT 7", x.act(1), 1);
        due("12: nor behind that", x.turn(), 3);
        due("10: THE ROW is not changed by it", x.told(6), 3);
        due("12: there", x.walks(0, 0), 1);
    }

    /** THE ROW is empty behind a turn in which nothing was done. */
    private static void rowOfNothing() {
        TurnClock x = withGrow();
        x.event(0, 1, false);
        due("12: turn()", x.turn(), 1);
        CHECK.dueRow("12", x, EVENT, 0);
        due("12: turn()", x.turn(), 0);
        CHECK.dueRow("12: nothing of the turn before", x);
    }

    /** Each thing has one row at most: 12 EVENTS, 12 TIMERS, 12 DAEMONS and 4 WALKERS are 40. */
    private static void rowOfAll() {
        TurnClock x = withGrow();
        x.room();
        x.room();
        x.door(0, 1);
        for (int i = 0; i < 12; i++) {
            x.event(0, 1, true);
            x.timer(0, 1, true);
            x.daemon(0, 9);
            start(x, i);
            switchOn(x, i);
        }
        for (int w = 0; w < 4; w++) {
            x.walker(0);
            send(x, w, 1);
        }
        due("12: forty rows", x.turn(), 40);
        due("14: told(6)", x.told(6), 40);
        int[] first = {0, 12, 24, 36, 40};
        for (int kind = 0; kind < 4; kind++) {
            for (int i = first[kind]; i < first[kind + 1]; i++) {
                due("21: row(" + i + ", 0)", x.row(i, 0), kind);
                due("21: row(" + i + ", 1)", x.row(i, 1), i - first[kind]);
            }
        }
        due("21: row(40, 0)", x.row(40, 0), NONE);
        due("21: row(40, 1)", x.row(40, 1), NONE);
        due("21: row(-1, 0)", x.row(-1, 0), NONE);
        due("12: fewer then", x.turn(), 24);
        due("21: no row of the turn before", x.row(24, 0), NONE);
        due("13: back()", x.back(), 1);
        due("13: forty again", x.told(6), 40);
        due("13: the last of them", x.row(39, 1), 3);
    }

    /** "(a CONDITION that did not hold counts as done)": of EVENTS, TIMERS and DAEMONS. */
    private static void rowOfConditions() {
        TurnClock x = withGrow();
        x.condition(0, 1, 1);
        x.event(0, 1, false);
        x.timer(0, 1, true);
        x.daemon(0, 0);
        start(x, 0);
        switchOn(x, 0);
        due("12: turn()", x.turn(), 3);
        CHECK.dueRow("12", x, EVENT, 0, TIMER, 0, DAEMON, 0);
        due("12: nothing was done by them", x.counter(0), 0);
        due("12: it came, so it is gone", x.is(2, 0), 0);
        due("12: it rang, so it is repeated", x.left(0), 1);
    }
}
