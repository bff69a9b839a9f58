/** Promises 1 to 9: a new object, and what is made in it. */
public final class MakingTest {
    private static final int NONE = TurnClock.NONE, UNKNOWN = TurnClock.UNKNOWN;
    private static final int OUTSIDE = TurnClock.OUTSIDE, STATE = TurnClock.STATE, ROOM = TurnClock.ROOM;
    private static final int[] FAR = {Integer.MIN_VALUE, -1001, -1, 10000, Integer.MAX_VALUE};
    private static final Check CHECK = new Check();

    public static void main(String[] args) {
        newObject();
        room();
        door();
        walker();
        deed();
        condition();
        event();
        timer();
        daemon();
        CHECK.end();
    }

    private static void due(String call, int got, int want) {
        CHECK.due(call, got, want);
    }

    private static void newObject() {
        TurnClock x = new TurnClock();
        int[] told = {0, 0, 0, 1, 0, 0, 0};
        for (int what = 0; what < 7; what++) {
            due("1: told(" + what + ")", x.told(what), told[what]);
            due("1: count(" + what + ")", x.count(what), 0);
        }
        for (int c = 0; c < 8; c++) {
            due("1: counter(" + c + ")", x.counter(c), 0);
        }
        due("1: back()", x.back(), STATE);
        due("1: row(0, 0)", x.row(0, 0), NONE);
    }

    private static void room() {
        TurnClock x = new TurnClock();
        for (int i = 0; i < 10; i++) {
            due("2: room()", x.room(), i);
        }
        due("2: an eleventh", x.room(), ROOM);
        due("2: count(0)", x.count(0), 10);
    }

    private static void door() {
        TurnClock x = new TurnClock();
        due("3: no rooms", x.door(0, 0), UNKNOWN);
        x.room();
        due("3: one twice", x.door(0, 0), OUTSIDE);
        due("3: second not there", x.door(0, 1), UNKNOWN);
        due("3: first not there", x.door(1, 0), UNKNOWN);
        due("3: not there twice", x.door(1, 1), UNKNOWN);
        x.room();
        for (int far : FAR) {
            due("3: door(far, 0)", x.door(far, 0), UNKNOWN);
            due("3: door(0, far)", x.door(0, far), UNKNOWN);
        }
        for (int i = 0; i < 15; i++) {
            due("3: door", x.door(i % 2, 1 - i % 2), i);
            due("3: open at first", x.is(1, i), 1);
        }
        due("3: a sixteenth", x.door(0, 1), ROOM);
        due("3: OUTSIDE ahead of ROOM", x.door(0, 0), OUTSIDE);
        due("3: UNKNOWN ahead of ROOM", x.door(0, 2), UNKNOWN);
        due("3: count(1)", x.count(1), 15);
    }

    private static void walker() {
        TurnClock x = new TurnClock();
        due("4: no rooms", x.walker(0), UNKNOWN);
        x.room();
        x.room();
        for (int far : FAR) {
            due("4: walker(far)", x.walker(far), UNKNOWN);
        }
        for (int i = 0; i < 4; i++) {
            due("4: walker", x.walker(i % 2), i);
            due("4: its room", x.walks(i, 0), i % 2);
            due("4: its goal", x.walks(i, 1), NONE);
        }
        due("4: a fifth", x.walker(0), ROOM);
        due("4: UNKNOWN ahead of ROOM", x.walker(2), UNKNOWN);
        due("4: count(2)", x.count(2), 4);
        due("4: the first stays", x.walks(0, 0), 0);
    }

    private static void deed() {
        TurnClock x = new TurnClock();
        due("5: sort -1", x.deed(-1, 0, 0), OUTSIDE);
        due("5: sort 9", x.deed(9, 0, 0), OUTSIDE);
        for (int far : FAR) {
            due("5: sort far", x.deed(far, 0, 1), OUTSIDE);
            due("5: x far, sort 0", x.deed(0, far, 1), OUTSIDE);
            due("5: y far, sort 8", x.deed(8, 0, far), OUTSIDE);
        }
        due("5: sort 0, x 8", x.deed(0, 8, 1), OUTSIDE);
        due("5: sort 0, y 1001", x.deed(0, 0, 1001), OUTSIDE);
        due("5: sort 0, y -1001", x.deed(0, 0, -1001), OUTSIDE);
        due("5: sort 8, y 0", x.deed(8, 0, 0), OUTSIDE);
        due("5: sort 8, y 601", x.deed(8, 0, 601), OUTSIDE);
        due("5: none made", x.count(3), 0);
        int made = 0;
        due("5: sort 0, upper edges", x.deed(0, 7, 1000), made++);
        due("5: sort 0, lower edges", x.deed(0, 0, -1000), made++);
        due("5: sort 8, y 1, x any", x.deed(8, Integer.MIN_VALUE, 1), made++);
        due("5: sort 8, y 600", x.deed(8, 99, 600), made++);
        for (int sort = 1; sort <= 7; sort++) {
            due("5: any x, y", x.deed(sort, Integer.MAX_VALUE, Integer.MIN_VALUE), made++);
        }
        while (made < 40) {
            due("5: deed", x.deed(0, 0, 1), made++);
        }
        due("5: a 41st", x.deed(0, 0, 1), ROOM);
        due("5: OUTSIDE ahead of ROOM", x.deed(0, 8, 1), OUTSIDE);
        due("5: count(3)", x.count(3), 40);
        for (int d = 4; d < 11; d++) {
            due("5: none has a condition, nor throws", x.act(d), 1);
        }
    }

    private static void condition() {
        TurnClock x = new TurnClock();
        due("6: no deeds", x.condition(0, 0, 0), UNKNOWN);
        x.deed(0, 0, 1);
        for (int far : FAR) {
            due("6: deed far", x.condition(far, 0, 0), UNKNOWN);
            if (far != NONE) {
                due("6: c far", x.condition(0, far, 0), OUTSIDE);
                due("6: least far", x.condition(0, 0, far), OUTSIDE);
            }
        }
        due("6: UNKNOWN ahead of OUTSIDE", x.condition(1, 8, 5000), UNKNOWN);
        due("6: c 8", x.condition(0, 8, 0), OUTSIDE);
        due("6: c -2", x.condition(0, -2, 0), OUTSIDE);
        due("6: least 1001", x.condition(0, 7, 1001), OUTSIDE);
        due("6: least -1001", x.condition(0, 7, -1001), OUTSIDE);
        due("6: least 1001 of none", x.condition(0, NONE, 1001), OUTSIDE);
        due("6: refused ones change nothing", x.act(0), 1);
        due("6: least 2", x.condition(0, 0, 2), 1);
        due("6: does not hold", x.act(0), 0);
        due("6: counter(0)", x.counter(0), 1);
        due("6: least 1", x.condition(0, 0, 1), 1);
        due("6: holds at the bound", x.act(0), 1);
        due("6: edges", x.condition(0, 7, 1000), 1);
        due("6: does not hold", x.act(0), 0);
        due("6: edges", x.condition(0, 7, -1000), 1);
        due("6: holds", x.act(0), 1);
        due("6: least 1 of counter 7", x.condition(0, 7, 1), 1);
        due("6: does not hold", x.act(0), 0);
        due("6: none any more", x.condition(0, NONE, 1000), 1);
        due("6: without one", x.act(0), 1);
        due("6: counter(0)", x.counter(0), 4);
    }

    private static void event() {
        TurnClock x = new TurnClock();
        due("7: no deeds", x.event(0, 0, true), UNKNOWN);
        due("7: UNKNOWN ahead of OUTSIDE", x.event(0, 1440, true), UNKNOWN);
        x.deed(0, 0, 1);
        for (int far : FAR) {
            due("7: deed far", x.event(far, 0, true), UNKNOWN);
            due("7: minute far", x.event(0, far, true), OUTSIDE);
        }
        due("7: minute 1440", x.event(0, 1440, false), OUTSIDE);
        for (int i = 0; i < 12; i++) {
            due("7: event", x.event(0, i % 2 == 0 ? 0 : 1439, i % 3 == 0), i);
            due("7: not gone", x.is(2, i), 1);
        }
        due("7: a thirteenth", x.event(0, 0, true), ROOM);
        due("7: OUTSIDE ahead of ROOM", x.event(0, 1440, true), OUTSIDE);
        due("7: UNKNOWN ahead of ROOM", x.event(1, 0, true), UNKNOWN);
        due("7: count(4)", x.count(4), 12);
    }

    private static void timer() {
        TurnClock x = new TurnClock();
        due("8: no deeds", x.timer(0, 1, true), UNKNOWN);
        due("8: UNKNOWN ahead of OUTSIDE", x.timer(0, 0, true), UNKNOWN);
        x.deed(0, 0, 1);
        for (int far : FAR) {
            due("8: deed far", x.timer(far, 1, true), UNKNOWN);
            due("8: length far", x.timer(0, far, true), OUTSIDE);
        }
        due("8: length 0", x.timer(0, 0, false), OUTSIDE);
        due("8: length 51", x.timer(0, 51, false), OUTSIDE);
        for (int i = 0; i < 12; i++) {
            due("8: timer", x.timer(0, i % 2 == 0 ? 1 : 50, i % 3 == 0), i);
            due("8: does not run", x.left(i), 0);
        }
        due("8: a thirteenth", x.timer(0, 1, true), ROOM);
        due("8: OUTSIDE ahead of ROOM", x.timer(0, 51, true), OUTSIDE);
        due("8: UNKNOWN ahead of ROOM", x.timer(1, 1, true), UNKNOWN);
        due("8: count(5)", x.count(5), 12);
        due("8: none rings", x.turn(), 0);
    }

    private static void daemon() {
        TurnClock x = new TurnClock();
        due("9: no deeds", x.daemon(0, 0), UNKNOWN);
        due("9: UNKNOWN ahead of OUTSIDE", x.daemon(0, 10), UNKNOWN);
        x.deed(0, 0, 1);
        for (int far : FAR) {
            due("9: deed far", x.daemon(far, 0), UNKNOWN);
            due("9: priority far", x.daemon(0, far), OUTSIDE);
        }
        due("9: priority 10", x.daemon(0, 10), OUTSIDE);
        for (int i = 0; i < 12; i++) {
            due("9: daemon", x.daemon(0, i % 2 == 0 ? 0 : 9), i);
            due("9: off", x.is(0, i), 0);
        }
        due("9: a thirteenth", x.daemon(0, 0), ROOM);
        due("9: OUTSIDE ahead of ROOM", x.daemon(0, 10), OUTSIDE);
        due("9: UNKNOWN ahead of ROOM", x.daemon(1, 0), UNKNOWN);
        due("9: count(6)", x.count(6), 12);
        due("9: none is done", x.turn(), 0);
    }
}
