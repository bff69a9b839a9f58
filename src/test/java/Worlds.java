/** What tests begin with: each takes a new object and goes on from there. */
final class Worlds {
    private Worlds() { }

    /** Nothing but the clock, and a turn that may be taken back. */
    static void empty(TurnClock x) {
        x.turn();
    }

    /** One of all but ROOMS and DEEDS, all of it going on, and two turns that may be taken back. */
    static void small(TurnClock x) {
        x.room();
        x.room();
        x.door(0, 1);
        x.walker(0);
        x.deed(0, 0, 1);
        x.deed(1, 0, 0);
        x.deed(3, 0, 0);
        x.deed(5, 0, 0);
        x.deed(6, 0, 1);
        x.deed(8, 0, 100);
        x.condition(3, 0, 3);
        x.event(0, 2, false);
        x.timer(0, 3, true);
        x.daemon(0, 5);
        x.pace(2);
        x.act(1);
        x.act(2);
        x.act(3);
        x.act(4);
        x.act(5);
        x.turn();
        x.turn();
    }

    /** As many of all as there may be, the last of each with a part in it, and two turns. */
    static void full(TurnClock x) {
        fullHouse(x);
        fullDeeds(x);
        for (int i = 0; i < 11; i++) {
            x.event(i % 2 == 0 ? 0 : 39, i + 1, i % 3 == 0);
            x.timer(i % 2 == 0 ? 0 : 39, i + 1, i % 3 == 0);
            x.daemon(i % 2 == 0 ? 0 : 38, 9 - i % 10);
        }
        x.event(39, 3, false);
        x.timer(39, 2, true);
        x.daemon(39, 0);
        int[] first = {2, 7, 13, 14, 17, 25, 29, 30, 31, 32};
        for (int deed : first) {
            x.act(deed);
        }
        x.turn();
        x.turn();
    }

    private static void fullHouse(TurnClock x) {
        for (int i = 0; i < 10; i++) {
            x.room();
        }
        for (int i = 0; i < 9; i++) {
            x.door(i, i + 1);
        }
        int[][] more = {{0, 2}, {1, 3}, {5, 7}, {6, 8}, {2, 4}, {9, 0}};
        for (int[] sides : more) {
            x.door(sides[0], sides[1]);
        }
        int[] places = {1, 3, 5, 8};
        for (int place : places) {
            x.walker(place);
        }
    }

    /** 0 and 1 COUNTERS, 2 to 13 TIMERS, 14 to 25 DAEMONS, 26 to 39 one of each SORT and more. */
    private static void fullDeeds(TurnClock x) {
        x.deed(0, 0, 1);
        x.deed(0, 7, -1);
        for (int i = 0; i < 12; i++) {
            x.deed(1, i, 0);
        }
        for (int i = 0; i < 12; i++) {
            x.deed(3, i, 0);
        }
        int[][] others = {{2, 0, 0}, {4, 0, 0}, {5, 0, 0}, {6, 0, 6}, {6, 1, 8}, {6, 2, 0}, {6, 3, 4},
            {7, 0, 0}, {8, 0, 600}, {5, 14, 0}, {0, 1, 1000}, {0, 2, -1000}, {0, 3, 5}, {0, 4, 2}};
        for (int[] d : others) {
            x.deed(d[0], d[1], d[2]);
        }
        x.condition(33, 7, 1);
        x.condition(38, 0, 3);
    }

    /** A new object whose TIME is the minute (DAY 0, PACE 1); nothing else is there. */
    static TurnClock at(int minute) {
        TurnClock x = new TurnClock();
        x.pace(60);
        for (int i = 0; i < minute / 60; i++) {
            x.turn();
        }
        if (minute % 60 > 0) {
            x.pace(minute % 60);
            x.turn();
        }
        x.pace(1);
        return x;
    }

    /** A turn of so many minutes (1 to 660); it makes a DEED if it needs SKIP. */
    static int goOn(TurnClock x, int minutes) {
        int pace = Math.min(minutes, 60);
        x.pace(pace);
        if (minutes > pace) {
            x.act(x.deed(8, 0, minutes - pace));
        }
        return x.turn();
    }

    /** Counter c gets the value, by a DEED that is made for it. */
    static void setCounter(TurnClock x, int c, int value) {
        x.act(x.deed(0, c, value - x.counter(c)));
    }
}
