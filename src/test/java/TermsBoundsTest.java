/** The bounds that "Terms" names: the clock, PACE, SKIP, COUNTERS, CONDITIONS, and things that are not there. */
public final class TermsBoundsTest {
    private static final int NONE = TurnClock.NONE, OUTSIDE = TurnClock.OUTSIDE;
    private static final int LEAST = Integer.MIN_VALUE, MOST = Integer.MAX_VALUE;
    private static final Check CHECK = new Check();
    private static final Twins TWINS = new Twins(CHECK);

    public static void main(String[] args) {
        atFirst();
        dayBeginsAnew();
        manyDays();
        paceMoves();
        skipGrows();
        skipIsUsed();
        countersAreBounded();
        countersAreEight();
        conditionsHoldAtTheirLeast();
        conditionsOfEachSort();
        notThere();
        notThereInATurn();
        roomsNotThere();
        thereByThen();
        lastOfEachIsThere();
        doneTwice();
        lastOf512Calls();
        CHECK.end();
    }

    private static void due(String call, int got, int want) {
        CHECK.due(call, got, want);
    }

    /** "(all 0 at first)", "(at first 1)", "(at first 0)"; promise 1: "Nothing but the clock." */
    private static void atFirst() {
        int[] told = {0, 0, 0, 1, 0, 0, 0};
        for (int what = 0; what < 7; what++) {
            due("1: told(" + what + ")", new TurnClock().told(what), told[what]);
            due("1: count(" + what + ")", new TurnClock().count(what), 0);
        }
        for (int c = 0; c < 8; c++) {
            due("1: counter(" + c + ")", new TurnClock().counter(c), 0);
        }
        due("1: THE ROW is empty", new TurnClock().row(0, 0), NONE);
        due("1: no turn may be taken back", new TurnClock().back(), TurnClock.STATE);
        due("1: a turn has nothing to do", new TurnClock().turn(), 0);
    }

    /** "TIME is a minute of the day, 0 to 1439, DAY how often it began anew". */
    private static void dayBeginsAnew() {
        int[][] goes = {
            {0, 1, 1, 0}, {1437, 1, 1438, 0}, {1438, 1, 1439, 0}, {1439, 1, 0, 1},
            {1379, 60, 1439, 0}, {1380, 60, 0, 1}, {1381, 60, 1, 1}, {1439, 60, 59, 1},
            {779, 660, 1439, 0}, {780, 660, 0, 1}, {781, 660, 1, 1}, {1439, 660, 659, 1}};
        for (int[] g : goes) {
            TurnClock x = Worlds.at(g[0]);
            String what = "TIME " + g[0] + " and " + g[1] + " minutes";
            due(what + ": as it begins", x.told(0), g[0]);
            due(what + ": DAY as it begins", x.told(1), 0);
            Worlds.goOn(x, g[1]);
            due(what, x.told(0), g[2]);
            due(what + ": DAY", x.told(1), g[3]);
            due(what + ": taken back", x.back(), 0);
            due(what + ": TIME taken back", x.told(0), g[0]);
            due(what + ": DAY taken back", x.told(1), 0);
        }
    }

    /** The bound holds on each DAY anew. */
    private static void manyDays() {
        TurnClock x = Worlds.at(1439);
        x.pace(60);
        for (int day = 1; day <= 5; day++) {
            for (int i = 0; i < 23; i++) {
                x.turn();
            }
            due("TIME short of a day on", x.told(0), 1379);
            due("DAY", x.told(1), day);
            x.turn();
            due("TIME a day on", x.told(0), 1439);
            due("DAY is still that", x.told(1), day);
        }
        due("TURNS", x.told(2), 24 + 5 * 24);
    }

    /** "PACE is 1 to 60": as many minutes go by. */
    private static void paceMoves() {
        int[] paces = {1, 2, 59, 60};
        for (int n : paces) {
            TurnClock x = new TurnClock();
            x.pace(n);
            x.turn();
            due("TIME by PACE " + n, x.told(0), n);
            x.turn();
            due("TIME by PACE " + n + " twice", x.told(0), 2 * n);
            due("a refused PACE", x.pace(n == 1 ? 0 : 61), OUTSIDE);
            x.turn();
            due("TIME by PACE " + n + ", as it was", x.told(0), 3 * n);
        }
    }

    /** "SKIP 0 to 600 (at first 0)"; "SKIP grows by y (to 600 at most)". */
    private static void skipGrows() {
        int[][] grows = {{599, 1, 600}, {599, 2, 600}, {598, 1, 599}, {600, 1, 600}, {600, 600, 600},
            {1, 600, 600}, {1, 599, 600}, {1, 598, 599}, {1, 1, 2}, {300, 300, 600}, {300, 301, 600}};
        for (int[] g : grows) {
            TurnClock x = new TurnClock();
            x.deed(8, 0, g[0]);
            x.deed(8, 0, g[1]);
            due("SKIP at first", x.told(4), 0);
            due("grows", x.act(0), 1);
            due("SKIP " + g[0], x.told(4), g[0]);
            due("grows, even at its most", x.act(1), 1);
            due("SKIP " + g[0] + " and " + g[1], x.told(4), g[2]);
            x.turn();
            due("TIME by both", x.told(0), 1 + g[2]);
            due("SKIP behind the turn", x.told(4), 0);
        }
    }

    /** "SKIP is 0 (ahead of all DEEDS)": what grows in a turn is for the next. */
    private static void skipIsUsed() {
        TurnClock x = new TurnClock();
        x.deed(8, 0, 600);
        x.deed(8, 0, 1);
        x.event(0, 661, false);
        x.event(1, 661, false);
        x.pace(60);
        x.act(0);
        due("TIME 660", x.turn(), 0);
        x.act(0);
        due("at 661 both grow it", x.turn(), 2);
        due("TIME is not longer by what grew in the turn", x.told(0), 1320);
        due("SKIP is at its most, not beyond", x.told(4), 600);
        x.turn();
        due("TIME by 660", x.told(0), 540);
        due("DAY", x.told(1), 1);
        due("SKIP is used up", x.told(4), 0);
        due("back()", x.back(), 1);
        due("SKIP is there again", x.told(4), 600);
        due("back()", x.back(), 0);
        due("and the one of act", x.told(4), 600);
    }

    /** "COUNTERS 0 to 7 are -1000 to 1000, at first 0 (what would be beyond is that bound)". */
    private static void countersAreBounded() {
        int[][] grows = {{999, 1, 1000}, {999, 2, 1000}, {1000, 1, 1000}, {1000, 1000, 1000}, {1000, -1, 999},
            {1000, 0, 1000}, {1000, -1000, 0}, {1, 1000, 1000}, {0, 1000, 1000}, {-1, 1000, 999},
            {-999, -1, -1000}, {-999, -2, -1000}, {-1000, -1, -1000}, {-1000, -1000, -1000}, {-1000, 1, -999},
            {-1000, 0, -1000}, {-1000, 1000, 0}, {-1, -1000, -1000}, {0, -1000, -1000}, {1, -1000, -999}};
        int[] counters = {0, 7};
        for (int c : counters) {
            for (int[] g : grows) {
                String what = "COUNTER " + c + " of " + g[0] + " by " + g[1];
                TurnClock x = new TurnClock();
                Worlds.setCounter(x, c, g[0]);
                due(what + ": as it begins", x.counter(c), g[0]);
                due(what + ": is done", x.act(x.deed(0, c, g[1])), 1);
                due(what, x.counter(c), g[2]);
                x.event(1, 1, true);
                Worlds.setCounter(x, c, g[0]);
                due(what + ": in a turn", x.turn(), 1);
                due(what + ": in a turn", x.counter(c), g[2]);
                due(what + ": others", x.counter(7 - c), 0);
            }
        }
    }

    /** COUNTERS 0 to 7 are eight, each with its own number. */
    private static void countersAreEight() {
        TurnClock x = new TurnClock();
        for (int c = 0; c < 8; c++) {
            Worlds.setCounter(x, c, 1000 - c);
        }
        for (int c = 0; c < 8; c++) {
            due("counter(" + c + ")", x.counter(c), 1000 - c);
        }
        due("deed of COUNTER 8", x.deed(0, 8, 1), OUTSIDE);
        due("deed of COUNTER -1", x.deed(0, -1, 1), OUTSIDE);
    }

    /** "a CONDITION: a COUNTER and how much it has at least". */
    private static void conditionsHoldAtTheirLeast() {
        int[][] held = {{1000, 1000, 1}, {999, 1000, 0}, {-1000, -1000, 1}, {-1000, -999, 0}, {-999, -999, 1},
            {0, 0, 1}, {0, 1, 0}, {1, 1, 1}, {2, 1, 1}, {-1, 0, 0}, {0, -1, 1}, {1000, -1000, 1}, {-1000, 1000, 0}};
        int[] counters = {0, 7};
        for (int c : counters) {
            for (int[] h : held) {
                String what = "COUNTER " + c + " of " + h[0] + ", at least " + h[1];
                TurnClock x = new TurnClock();
                Worlds.setCounter(x, c, h[0]);
                int d = x.deed(0, 3, 1);
                x.condition(d, c, h[1]);
                due(what + ": act", x.act(d), h[2]);
                due(what + ": what it did", x.counter(3), h[2]);
                x.event(d, 1, true);
                due(what + ": a row in each case", x.turn(), 1);
                due(what + ": what it did in a turn", x.counter(3), 2 * h[2]);
            }
        }
    }

    /** "if its CONDITION does not hold, nothing": of each SORT, and done where it holds. */
    private static void conditionsOfEachSort() {
        for (int sort = 0; sort <= 8; sort++) {
            int s = sort;
            TWINS.alike("SORT " + s + ", not held", x -> conditionOnLast(x, s, 1000),
                x -> x.act(6), x -> x.condition(6, 7, 1000) - 1, 0);
            TWINS.alike("SORT " + s + ", held", x -> conditionOnLast(x, s, 0),
                x -> x.act(6), x -> x.act(7), 1);
        }
    }

    /** Behind the small world: DEED 6 with a CONDITION, and 7 the same without one. */
    private static void conditionOnLast(TurnClock x, int sort, int least) {
        Worlds.small(x);
        x.deed(sort, 0, 1);
        x.deed(sort, 0, 1);
        x.condition(6, 7, least);
        x.turn();
    }

    /** "What x tells and is not there: nothing is done", of SORTS 1 to 6, on both sides of what there is. */
    private static void notThere() {
        int[] few = {0, 1, 1, 1, 1, 1, 1};
        int[] most = {0, 12, 12, 12, 12, 15, 4};
        for (int sort = 1; sort <= 6; sort++) {
            int[] numbers = {LEAST, -1, few[sort], most[sort], MOST};
            for (int n : numbers) {
                nothingIsDone(sort, n, 1);
            }
        }
    }

    /** As an act that does nothing: a COUNTER that grows by 0. */
    private static void nothingIsDone(int sort, int number, int y) {
        TWINS.alike("SORT " + sort + ", x " + number + ", y " + y + ", not there", x -> {
            Worlds.small(x);
            x.deed(sort, number, y);
            x.deed(0, 0, 0);
            x.turn();
        }, x -> x.act(6), x -> x.act(7), 1);
    }

    /** It has its row in a turn, and what comes behind it is done. */
    private static void notThereInATurn() {
        int[] numbers = {LEAST, -1, 1, MOST};
        for (int sort = 1; sort <= 6; sort++) {
            for (int n : numbers) {
                TurnClock x = new TurnClock();
                Worlds.small(x);
                x.deed(sort, n, 1);
                x.daemon(6, 0);
                x.daemon(0, 9);
                x.act(x.deed(3, 1, 0));
                x.act(x.deed(3, 2, 0));
                int before = x.counter(0);
                x.turn();
                CHECK.dueRow("SORT " + sort + ", x " + n, x, 1, 0, 2, 1, 2, 0, 2, 2);
                due("SORT " + sort + ", x " + n + ": the others are done", x.counter(0), before + 3);
            }
        }
    }

    /** "What y as a ROOM tells and is not there: nothing is done": the GOAL stays what it was. */
    private static void roomsNotThere() {
        int[] rooms = {LEAST, -1, 2, MOST};
        for (int r : rooms) {
            nothingIsDone(6, 0, r);
            TurnClock x = new TurnClock();
            Worlds.small(x);
            due("its ROOM", x.walks(0, 0), 1);
            x.act(x.deed(6, 0, 0));
            due("is done", x.act(x.deed(6, 0, r)), 1);
            due("the GOAL is not changed by ROOM " + r, x.walks(0, 1), 0);
        }
        nothingIsDone(6, 1, 2);
        nothingIsDone(6, -1, -1);
    }

    /** "(then)": what was not there as the DEED was made may be there as it is done. */
    private static void thereByThen() {
        TurnClock x = new TurnClock();
        for (int sort = 1; sort <= 6; sort++) {
            x.deed(sort, 0, 1);
            due("nothing there yet", x.act(sort - 1), 1);
        }
        x.room();
        x.walker(0);
        x.act(5);
        due("6: the ROOM is not there yet", x.walks(0, 1), NONE);
        x.room();
        x.door(0, 1);
        x.timer(0, 50, false);
        x.daemon(0, 0);
        x.act(0);
        due("1: started", x.left(0), 50);
        x.act(1);
        due("2: stopped", x.left(0), 0);
        x.act(2);
        due("3: on", x.is(0, 0), 1);
        x.act(3);
        due("4: off", x.is(0, 0), 0);
        x.act(4);
        due("5: shut", x.is(1, 0), 0);
        x.act(5);
        due("6: the GOAL", x.walks(0, 1), 1);
    }

    /** The last number of each that there is, and the first: these are there. */
    private static void lastOfEachIsThere() {
        TurnClock x = new TurnClock();
        Worlds.full(x);
        x.act(13);
        due("1: the last TIMER", x.left(11), 2);
        x.act(25);
        due("3: the last DAEMON", x.is(0, 11), 1);
        x.act(35);
        due("5: the last DOOR", x.is(1, 14), 0);
        x.act(28);
        due("5: the first DOOR", x.is(1, 0), 0);
        x.act(2);
        due("1: the first TIMER", x.left(0), 1);
        x.act(26);
        due("2: the first TIMER", x.left(0), 0);
        x.act(27);
        due("4: the first DAEMON", x.is(0, 0), 0);
        lastOfWalkersAndOthers();
    }

    private static void lastOfWalkersAndOthers() {
        TurnClock x = new TurnClock();
        for (int i = 0; i < 10; i++) {
            x.room();
        }
        for (int i = 0; i < 4; i++) {
            x.walker(1 + i);
        }
        x.deed(0, 0, 1);
        for (int i = 0; i < 12; i++) {
            x.timer(0, 50, false);
            x.daemon(0, 0);
        }
        x.act(x.deed(1, 11, 0));
        due("1: the last TIMER", x.left(11), 50);
        x.act(x.deed(2, 11, 0));
        due("2: the last TIMER", x.left(11), 0);
        x.act(x.deed(3, 11, 0));
        due("3: the last DAEMON", x.is(0, 11), 1);
        x.act(x.deed(4, 11, 0));
        due("4: the last DAEMON", x.is(0, 11), 0);
        x.act(x.deed(6, 3, 9));
        due("6: the last WALKER, the last ROOM", x.walks(3, 1), 9);
        x.act(x.deed(6, 0, 0));
        due("6: the first WALKER, the first ROOM", x.walks(0, 1), 0);
        x.act(x.deed(6, 3, 4));
        due("6: none, if it is there", x.walks(3, 1), NONE);
        x.act(x.deed(6, 3, 4));
        due("6: none, as it was", x.walks(3, 1), NONE);
    }

    /** A TIMER that runs and is started, one stopped that does not run; on and on, off and off; open and shut. */
    private static void doneTwice() {
        TurnClock x = new TurnClock();
        Worlds.small(x);
        int stop = x.deed(2, 0, 0);
        int off = x.deed(4, 0, 0);
        x.act(1);
        due("1: started", x.left(0), 3);
        x.turn();
        due("it runs", x.left(0), 2);
        x.act(1);
        due("1: anew", x.left(0), 3);
        x.act(stop);
        x.act(stop);
        due("2: twice", x.left(0), 0);
        x.act(2);
        x.act(2);
        due("3: twice", x.is(0, 0), 1);
        x.act(off);
        x.act(off);
        due("4: twice", x.is(0, 0), 0);
        x.act(3);
        due("5: shut", x.is(1, 0), 0);
        x.act(3);
        due("5: open", x.is(1, 0), 1);
    }

    /** "An object is used for at most 512 calls": the last of them is answered as the first. */
    private static void lastOf512Calls() {
        for (int what = 0; what < 3; what++) {
            TurnClock x = new TurnClock();
            x.pace(60);
            for (int i = 0; i < 510; i++) {
                x.turn();
            }
            int[] told = {510 * 60 % 1440, 510 * 60 / 1440, 510};
            due("call 512, told(" + what + ")", x.told(what), told[what]);
        }
        TurnClock x = new TurnClock();
        for (int i = 0; i < 511; i++) {
            x.turn();
        }
        due("call 512, back()", x.back(), 7);
    }
}
