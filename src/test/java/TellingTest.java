/** Promises 14 to 22: the calls that only tell. */
public final class TellingTest {
    private static final int NONE = TurnClock.NONE, UNKNOWN = TurnClock.UNKNOWN, OUTSIDE = TurnClock.OUTSIDE;
    private static final int[] FAR = {Integer.MIN_VALUE, -2, -1, 12, 1000, Integer.MAX_VALUE};
    private static final Check CHECK = new Check();

    public static void main(String[] args) {
        told();
        count();
        counter();
        left();
        is();
        walks();
        way();
        row();
        minutes();
        CHECK.end();
    }

    private static void due(String call, int got, int want) {
        CHECK.due(call, got, want);
    }

    private static void told() {
        TurnClock x = new TurnClock();
        x.deed(8, 0, 500);
        x.deed(0, 0, 1);
        x.event(1, 503, true);
        x.event(1, 1002, true);
        x.timer(0, 3, true);
        x.pace(2);
        x.act(0);
        due("14: SKIP", x.told(4), 500);
        x.turn();
        x.event(0, 504, false);
        x.turn();
        due("14: SKIP by an event", x.told(4), 500);
        x.turn();
        int[] told = {1006, 0, 3, 2, 0, 2, 1};
        for (int what = 0; what < 7; what++) {
            due("14: told(" + what + ")", x.told(what), told[what]);
        }
        due("14: told(7)", x.told(7), OUTSIDE);
        for (int far : FAR) {
            due("14: told(far)", x.told(far), OUTSIDE);
        }
    }

    private static void count() {
        TurnClock x = new TurnClock();
        for (int i = 0; i < 7; i++) { x.room(); }
        for (int i = 0; i < 6; i++) { x.door(i, i + 1); }
        for (int i = 0; i < 3; i++) { x.walker(i); }
        for (int i = 0; i < 9; i++) { x.deed(0, 0, 1); }
        for (int i = 0; i < 2; i++) { x.event(0, 1, false); }
        for (int i = 0; i < 5; i++) { x.timer(0, 1, false); }
        x.daemon(0, 1);
        x.turn();
        due("15: gone", x.is(2, 0), 0);
        int[] counts = {7, 6, 3, 9, 2, 5, 1};
        for (int what = 0; what < 7; what++) {
            due("15: count(" + what + ")", x.count(what), counts[what]);
        }
        due("15: count(7)", x.count(7), OUTSIDE);
        for (int far : FAR) {
            due("15: count(far)", x.count(far), OUTSIDE);
        }
    }

    private static void counter() {
        TurnClock x = new TurnClock();
        x.deed(0, 0, -400);
        x.deed(0, 7, 999);
        x.act(0);
        x.act(1);
        due("16: below 0", x.counter(0), -400);
        due("16: counter(7)", x.counter(7), 999);
        due("16: counter(3)", x.counter(3), 0);
        x.act(0);
        x.act(0);
        x.act(1);
        due("16: the lower bound", x.counter(0), -1000);
        due("16: the upper bound", x.counter(7), 1000);
        due("16: counter(8)", x.counter(8), OUTSIDE);
        for (int far : FAR) {
            due("16: counter(far)", x.counter(far), OUTSIDE);
        }
    }

    private static void left() {
        TurnClock x = new TurnClock();
        due("17: none there", x.left(0), UNKNOWN);
        x.deed(1, 1, 0);
        x.timer(0, 50, false);
        x.timer(0, 7, false);
        x.act(0);
        due("17: left(0)", x.left(0), 0);
        due("17: left(1)", x.left(1), 7);
        x.turn();
        due("17: left(1)", x.left(1), 6);
        due("17: left(2)", x.left(2), UNKNOWN);
        for (int far : FAR) {
            due("17: left(far)", x.left(far), UNKNOWN);
        }
    }

    private static void is() {
        TurnClock x = new TurnClock();
        due("18: kind 3, ahead of UNKNOWN", x.is(3, 0), OUTSIDE);
        due("18: kind -1", x.is(-1, 0), OUTSIDE);
        for (int kind = 0; kind < 3; kind++) {
            due("18: none there", x.is(kind, 0), UNKNOWN);
        }
        x.room();
        x.room();
        x.door(0, 1);
        x.door(0, 1);
        x.deed(3, 0, 0);
        x.deed(4, 0, 0);
        x.deed(5, 1, 0);
        x.daemon(0, 0);
        x.daemon(0, 0);
        x.event(0, 1, false);
        x.event(0, 1, true);
        x.act(0);
        due("18: on", x.is(0, 0), 1);
        due("18: off", x.is(0, 1), 0);
        x.act(1);
        due("18: off again", x.is(0, 0), 0);
        x.act(2);
        due("18: open", x.is(1, 0), 1);
        due("18: shut", x.is(1, 1), 0);
        x.act(2);
        due("18: open again", x.is(1, 1), 1);
        due("18: not gone", x.is(2, 0), 1);
        x.turn();
        due("18: gone", x.is(2, 0), 0);
        due("18: daily", x.is(2, 1), 1);
        for (int kind = 0; kind < 3; kind++) {
            due("18: is(" + kind + ", 2)", x.is(kind, 2), UNKNOWN);
            for (int far : FAR) {
                due("18: is(" + kind + ", far)", x.is(kind, far), UNKNOWN);
            }
        }
    }

    private static void walks() {
        TurnClock x = new TurnClock();
        due("19: none there", x.walks(0, 0), UNKNOWN);
        due("19: UNKNOWN ahead of OUTSIDE", x.walks(0, 2), UNKNOWN);
        x.room();
        x.room();
        x.walker(1);
        x.walker(0);
        x.deed(6, 0, 0);
        x.act(0);
        due("19: room", x.walks(0, 0), 1);
        due("19: goal", x.walks(0, 1), 0);
        due("19: room", x.walks(1, 0), 0);
        due("19: no goal", x.walks(1, 1), NONE);
        due("19: what 2", x.walks(0, 2), OUTSIDE);
        for (int far : FAR) {
            due("19: walks(far, 0)", x.walks(far, 0), UNKNOWN);
            due("19: walks(0, far)", x.walks(0, far), OUTSIDE);
        }
    }

    private static void way() {
        TurnClock x = new TurnClock();
        due("20: none there", x.way(0, 0), UNKNOWN);
        for (int i = 0; i < 10; i++) { x.room(); }
        for (int i = 8; i > 0; i--) { x.door(i, i - 1); }
        due("20: the same", x.way(3, 3), 0);
        due("20: the same, no doors", x.way(9, 9), 0);
        due("20: none", x.way(0, 9), NONE);
        due("20: none", x.way(9, 0), NONE);
        due("20: the longest", x.way(0, 8), 8);
        due("20: the longest", x.way(8, 0), 8);
        x.door(9, 0);
        x.door(9, 8);
        due("20: a shorter one", x.way(0, 8), 2);
        due("20: half round", x.way(0, 5), 5);
        x.deed(5, 8, 0);
        x.act(0);
        due("20: one shut", x.way(0, 8), 8);
        due("20: round", x.way(0, 9), 9);
        x.act(0);
        due("20: open again", x.way(0, 9), 1);
        for (int far : FAR) {
            due("20: way(far, 0)", x.way(far, 0), UNKNOWN);
            due("20: way(0, far)", x.way(0, far), UNKNOWN);
        }
        due("20: way(10, 10)", x.way(10, 10), UNKNOWN);
    }

    private static void row() {
        TurnClock x = new TurnClock();
        due("21: what 2, ahead of NONE", x.row(0, 2), OUTSIDE);
        due("21: what -1", x.row(0, -1), OUTSIDE);
        x.room();
        x.room();
        x.door(0, 1);
        x.walker(0);
        x.walker(1);
        x.deed(0, 0, 1);
        x.deed(1, 1, 0);
        x.deed(3, 2, 0);
        x.deed(6, 1, 0);
        x.event(0, 1, true);
        x.timer(0, 1, true);
        x.timer(0, 1, true);
        x.daemon(0, 0);
        x.daemon(0, 0);
        x.daemon(0, 0);
        x.act(1);
        x.act(2);
        x.act(3);
        due("21: turn()", x.turn(), 4);
        CHECK.dueRow("21", x, 0, 0, 1, 1, 2, 2, 3, 1);
        x.act(0);
        x.room();
        CHECK.dueRow("21: other calls leave it", x, 0, 0, 1, 1, 2, 2, 3, 1);
        for (int far : FAR) {
            due("21: row(far, 0)", x.row(far, 0), NONE);
            due("21: row(0, far)", x.row(0, far), OUTSIDE);
        }
    }

    private static void minutes() {
        TurnClock x = new TurnClock();
        due("22: none there", x.minutes(0), UNKNOWN);
        x.deed(0, 0, 1);
        x.event(0, 0, true);
        x.event(0, 1, true);
        x.event(0, 1439, true);
        x.event(0, 1, false);
        due("22: now is a day ahead", x.minutes(0), 1440);
        due("22: the next one", x.minutes(1), 1);
        due("22: the last one", x.minutes(2), 1439);
        due("22: not gone", x.minutes(3), 1);
        x.turn();
        due("22: tomorrow", x.minutes(0), 1439);
        due("22: just now", x.minutes(1), 1440);
        due("22: later", x.minutes(2), 1438);
        due("22: gone", x.minutes(3), NONE);
        due("22: minutes(4)", x.minutes(4), UNKNOWN);
        for (int far : FAR) {
            due("22: minutes(far)", x.minutes(far), UNKNOWN);
        }
    }
}
