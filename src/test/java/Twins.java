import java.util.ArrayList;
import java.util.List;

/**
 * Two objects with the same calls behind them. One gets a call that must change
 * nothing, and from then on both must answer alike: all that can be told, and,
 * in a second pair (an object has 512 calls), all that happens later.
 */
final class Twins {
    interface Calls { void on(TurnClock x); }
    interface Call { int on(TurnClock x); }

    private final Check check;

    Twins(Check check) {
        this.check = check;
    }

    /** The call is refused with this answer, and nothing changes. */
    void refused(String what, Calls before, Call call, int answer) {
        alike(what, before, call, x -> answer, answer);
    }

    /** The call has this answer, and it changes just what the other call does. */
    void alike(String what, Calls before, Call call, Call other, int answer) {
        TurnClock one = made(before), two = made(before);
        check.due(what, call.on(one), answer);
        check.due(what + ": the other call", other.on(two), answer);
        same(what + ": what is told then", seen(one), seen(two));
        one = made(before);
        two = made(before);
        call.on(one);
        other.on(two);
        same(what + ": what happens then", later(one), later(two));
    }

    private static TurnClock made(Calls before) {
        TurnClock x = new TurnClock();
        before.on(x);
        return x;
    }

    private void same(String what, List<Integer> one, List<Integer> two) {
        check.holds(what + ": " + one + ", due is " + two, one.equals(two));
    }

    /** All that the calls that only tell can tell. */
    static List<Integer> seen(TurnClock x) {
        List<Integer> all = new ArrayList<>();
        for (int what = 0; what < 7; what++) {
            all.add(x.told(what));
            all.add(x.count(what));
        }
        for (int c = 0; c < 8; c++) {
            all.add(x.counter(c));
        }
        seenThings(x, all);
        seenHouse(x, all);
        int rows = x.told(6);
        for (int i = 0; i <= rows; i++) {
            all.add(x.row(i, 0));
            all.add(x.row(i, 1));
        }
        return all;
    }

    private static void seenThings(TurnClock x, List<Integer> all) {
        int events = x.count(4), timers = x.count(5), daemons = x.count(6);
        for (int e = 0; e < events; e++) {
            all.add(x.is(2, e));
            all.add(x.minutes(e));
        }
        for (int t = 0; t < timers; t++) {
            all.add(x.left(t));
        }
        for (int d = 0; d < daemons; d++) {
            all.add(x.is(0, d));
        }
    }

    private static void seenHouse(TurnClock x, List<Integer> all) {
        int rooms = x.count(0), doors = x.count(1), walkers = x.count(2);
        for (int from = 0; from < rooms; from++) {
            for (int to = 0; to < from; to++) {
                all.add(x.way(from, to));
            }
        }
        for (int d = 0; d < doors; d++) {
            all.add(x.is(1, d));
        }
        for (int w = 0; w < walkers; w++) {
            all.add(x.walks(w, 0));
            all.add(x.walks(w, 1));
        }
    }

    /** Turns taken back, turns, each DEED done, and turns again. */
    private static List<Integer> later(TurnClock x) {
        List<Integer> all = new ArrayList<>();
        for (int i = 0; i < 9; i++) {
            all.add(x.back());
        }
        for (int i = 0; i < 3; i++) {
            all.add(x.turn());
        }
        int deeds = x.count(3);
        for (int d = 0; d < deeds; d++) {
            all.add(x.act(d));
        }
        all.add(x.turn());
        all.add(x.turn());
        all.addAll(seen(x));
        return all;
    }
}
