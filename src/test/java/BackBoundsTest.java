import java.util.ArrayList;
import java.util.List;

/** The boundary cases of "TAKEN BACK": how far, what is as it was, and which calls close it. */
public final class BackBoundsTest {
    private static final int NONE = TurnClock.NONE, STATE = TurnClock.STATE, ROOM = TurnClock.ROOM;
    private static final int EVENT = 0;
    private static final Check CHECK = new Check();

    public static void main(String[] args) {
        upToEight();
        eightInTheMidst();
        backAndOn();
        allIsAsItWas();
        eachSortIsTakenBack();
        allIsAsItWasInAFullWorld();
        rowOfTheTurnBefore();
        rowBehindAClosingCall();
        rowBehindMoreThanEight();
        closedByEachCall();
        notClosedByTellingCalls();
        notClosedByRefusedCalls();
        notClosedByRefusedCallsOfAFullWorld();
        CHECK.end();
    }

    private static void due(String call, int got, int want) {
        CHECK.due(call, got, want);
    }

    /** "up to 8 turns, one behind the other": of none, seven, eight, nine and many. */
    private static void upToEight() {
        int[] manyTurns = {0, 1, 7, 8, 9, 10, 16, 17, 40};
        for (int turns : manyTurns) {
            TurnClock x = new TurnClock();
            for (int i = 1; i <= turns; i++) {
                x.turn();
                due("13: told(5) behind turn " + i, x.told(5), Math.min(i, 8));
            }
            int may = Math.min(turns, 8);
            for (int i = 1; i <= may; i++) {
                due("13: of " + turns + ", back() " + i, x.back(), may - i);
                due("13: told(5)", x.told(5), may - i);
                due("13: TURNS", x.told(2), turns - i);
                due("13: TIME", x.told(0), turns - i);
            }
            due("13: of " + turns + ", no more", x.back(), STATE);
            due("13: TURNS stay", x.told(2), turns - may);
            due("13: told(5) stays", x.told(5), 0);
            due("13: refused again", x.back(), STATE);
        }
    }

    /** Seven taken back and one left; the oldest of eight, behind turns that were taken back and turned anew. */
    private static void eightInTheMidst() {
        TurnClock x = new TurnClock();
        for (int i = 0; i < 12; i++) {
            x.turn();
        }
        for (int i = 0; i < 7; i++) {
            x.back();
        }
        due("13: one more", x.told(5), 1);
        due("13: TURNS", x.told(2), 5);
        for (int i = 2; i <= 8; i++) {
            x.turn();
            due("13: told(5)", x.told(5), i);
        }
        x.turn();
        due("13: at most eight again", x.told(5), 8);
        for (int i = 7; i >= 0; i--) {
            due("13: back()", x.back(), i);
        }
        due("13: TURNS", x.told(2), 5);
        due("13: no more", x.back(), STATE);
    }

    /** A turn behind back() is a turn like others; PACE is what it was. */
    private static void backAndOn() {
        TurnClock x = new TurnClock();
        x.pace(60);
        for (int i = 0; i < 30; i++) {
            x.turn();
            x.turn();
            due("13: back()", x.back(), Math.min(i + 1, 7));
            due("13: TURNS", x.told(2), i + 1);
            due("13: TIME", x.told(0), (i + 1) * 60 % 1440);
            due("13: DAY", x.told(1), (i + 1) * 60 / 1440);
        }
        due("13: PACE", x.told(3), 60);
        due("13: may still", x.told(5), 7);
    }

    /** "all is again as it was ahead of the latest turn": told whole ahead of each turn and behind each back(). */
    private static void allIsAsItWas() {
        List<List<Integer>> ahead = new ArrayList<>();
        TurnClock x = new TurnClock();
        Worlds.small(x);
        for (int i = 0; i < 5; i++) {
            ahead.add(Twins.seen(x));
            x.turn();
        }
        for (int i = 4; i >= 0; i--) {
            due("13: back()", x.back(), i + 2);
            List<Integer> now = Twins.seen(x);
            CHECK.holds("13: as ahead of turn " + i + ": " + now + ", due is " + ahead.get(i), now.equals(ahead.get(i)));
        }
    }

    /** What a DEED of each SORT did in the turn is as it was; of SORT 7 the turn alone. */
    private static void eachSortIsTakenBack() {
        for (int sort = 0; sort <= 8; sort++) {
            TurnClock x = new TurnClock();
            Worlds.small(x);
            x.daemon(0, 9);
            x.deed(sort, sort == 3 ? 1 : 0, sort == 6 ? 0 : 1);
            x.event(6, x.told(0) + 1, false);
            List<Integer> ahead = Twins.seen(x);
            for (int i = 0; i < 2; i++) {
                x.turn();
                due("13: SORT " + sort + ", its EVENT came", x.row(0, 0), EVENT);
                due("13: it is gone", x.is(2, 1), 0);
                due("13: back()", x.back(), 0);
                List<Integer> now = Twins.seen(x);
                CHECK.holds("13: SORT " + sort + ": " + now + ", due is " + ahead, now.equals(ahead));
            }
        }
    }

    /** As much as 512 calls allow: one object goes on and back by n, another only came to that point. */
    private static void allIsAsItWasInAFullWorld() {
        for (int n = 1; n <= 10; n++) {
            TurnClock x = new TurnClock(), other = new TurnClock();
            Worlds.full(x);
            Worlds.full(other);
            for (int i = 0; i < n; i++) {
                x.turn();
            }
            int may = Math.min(n, 8);
            for (int i = 0; i < may; i++) {
                x.back();
            }
            for (int i = 0; i < n - may; i++) {
                other.turn();
            }
            int left = Math.min(n + 2, 8) - may;
            due("13: of " + n + " and two", x.told(5), left);
            // The older turns of the one are given up by the way, so both close them.
            x.pace(1);
            other.pace(1);
            List<Integer> now = Twins.seen(x), due = Twins.seen(other);
            CHECK.holds("13: " + n + " and back: " + now + ", due is " + due, now.equals(due));
        }
    }

    /** "(THE ROW is that of the turn before it, empty ahead of the first)". */
    private static void rowOfTheTurnBefore() {
        TurnClock x = new TurnClock();
        x.deed(0, 0, 1);
        x.event(0, 1, true);
        x.event(0, 2, true);
        x.event(0, 2, true);
        x.turn();
        x.turn();
        x.turn();
        CHECK.dueRow("12: the third has none", x);
        due("13: back()", x.back(), 2);
        CHECK.dueRow("13: of the second", x, EVENT, 1, EVENT, 2);
        due("13: back()", x.back(), 1);
        CHECK.dueRow("13: of the first", x, EVENT, 0);
        due("13: back()", x.back(), 0);
        CHECK.dueRow("13: empty ahead of the first", x);
    }

    /** A turn that may not be taken back any more still has THE ROW, which comes again. */
    private static void rowBehindAClosingCall() {
        TurnClock x = new TurnClock();
        x.deed(0, 0, 1);
        x.event(0, 1, true);
        x.event(0, 2, true);
        x.turn();
        x.pace(1);
        CHECK.dueRow("13: the closing call leaves it", x, EVENT, 0);
        x.turn();
        CHECK.dueRow("12: of the second", x, EVENT, 1);
        due("13: back()", x.back(), 0);
        CHECK.dueRow("13: of the first", x, EVENT, 0);
        due("13: back()", x.back(), STATE);
        CHECK.dueRow("13: refused, it stays", x, EVENT, 0);
    }

    private static void rowBehindMoreThanEight() {
        TurnClock x = new TurnClock();
        x.deed(0, 0, 1);
        for (int e = 0; e < 12; e++) {
            x.event(0, e + 1, false);
        }
        for (int i = 0; i < 12; i++) {
            due("12: one each", x.turn(), 1);
        }
        for (int e = 10; e >= 3; e--) {
            x.back();
            CHECK.dueRow("13: of turn " + e, x, EVENT, e);
            due("13: the next is not gone", x.is(2, e + 1), 1);
            due("13: this one is", x.is(2, e), 0);
        }
        due("13: no more", x.back(), STATE);
        CHECK.dueRow("13: refused, it stays", x, EVENT, 3);
    }

    /** "none that was ahead of another call that was not refused": each of these calls, alone. */
    private static void closedByEachCall() {
        Twins.Call[] calls = {
            x -> x.room(), x -> x.door(0, 1), x -> x.walker(0), x -> x.deed(0, 0, 1),
            x -> x.condition(0, 0, 0), x -> x.condition(0, NONE, 0), x -> x.event(0, 0, true),
            x -> x.timer(0, 1, true), x -> x.daemon(0, 0), x -> x.act(0), x -> x.act(6),
            x -> x.act(7), x -> x.act(8), x -> x.pace(60), x -> x.pace(2)};
        int[] answers = {2, 1, 1, 9, 1, 1, 1, 1, 1, 1, 0, 1, 1, 2, 2};
        for (int i = 0; i < calls.length; i++) {
            TurnClock x = withMoreDeeds();
            due("13: two may be taken back", x.told(5), 2);
            int turns = x.told(2);
            due("13: call " + i, calls[i].on(x), answers[i]);
            due("13: none any more", x.told(5), 0);
            due("13: back()", x.back(), STATE);
            due("13: TURNS stay", x.told(2), turns);
            x.turn();
            due("13: one behind it", x.told(5), 1);
            due("13: back()", x.back(), 0);
            due("13: none ahead of it", x.back(), STATE);
            due("13: TURNS stay", x.told(2), turns);
        }
    }

    /** DEED 6 does not hold, 7 is of SORT 7, 8 is of a TIMER that is not there. */
    private static TurnClock withMoreDeeds() {
        TurnClock x = new TurnClock();
        Worlds.small(x);
        x.deed(0, 1, 1);
        x.condition(6, 7, 1);
        x.deed(7, 0, 0);
        x.deed(1, 9, 0);
        x.turn();
        x.turn();
        return x;
    }

    /** "(but turn(), back() and those that only tell)". */
    private static void notClosedByTellingCalls() {
        Twins.Call[] calls = {
            x -> x.told(0), x -> x.count(0), x -> x.counter(0), x -> x.left(0), x -> x.is(0, 0),
            x -> x.is(1, 0), x -> x.is(2, 0), x -> x.walks(0, 0), x -> x.way(0, 1), x -> x.row(0, 0),
            x -> x.minutes(0)};
        for (int i = 0; i < calls.length; i++) {
            TurnClock x = withMoreDeeds();
            calls[i].on(x);
            due("13: call " + i + " only tells", x.told(5), 2);
            due("13: back()", x.back(), 1);
            calls[i].on(x);
            due("13: back()", x.back(), 0);
            calls[i].on(x);
            due("13: back()", x.back(), STATE);
        }
    }

    /** A call that is refused closes nothing: UNKNOWN and OUTSIDE. */
    private static void notClosedByRefusedCalls() {
        Twins.Call[] calls = {
            x -> x.door(0, 2), x -> x.door(-1, 0), x -> x.door(1, 1), x -> x.walker(2), x -> x.walker(-1),
            x -> x.deed(9, 0, 0), x -> x.deed(-1, 0, 0), x -> x.deed(0, 8, 0), x -> x.deed(0, 0, 1001),
            x -> x.deed(8, 0, 0), x -> x.deed(8, 0, 601), x -> x.condition(9, 0, 0), x -> x.condition(0, 8, 0),
            x -> x.condition(0, -2, 0), x -> x.condition(0, 0, 1001), x -> x.condition(0, 0, -1001),
            x -> x.event(9, 0, true), x -> x.event(0, 1440, true), x -> x.event(0, -1, true),
            x -> x.timer(9, 1, true), x -> x.timer(0, 0, true), x -> x.timer(0, 51, true),
            x -> x.daemon(9, 0), x -> x.daemon(0, 10), x -> x.daemon(0, -1), x -> x.act(9), x -> x.act(-1),
            x -> x.pace(0), x -> x.pace(61)};
        for (int i = 0; i < calls.length; i++) {
            TurnClock x = withMoreDeeds();
            CHECK.holds("13: call " + i + " is refused", calls[i].on(x) < NONE);
            due("13: call " + i + " closes nothing", x.told(5), 2);
            due("13: back()", x.back(), 1);
            due("13: back()", x.back(), 0);
        }
    }

    /** Nor does one that is refused by ROOM. */
    private static void notClosedByRefusedCallsOfAFullWorld() {
        Twins.Call[] calls = {
            x -> x.room(), x -> x.door(0, 1), x -> x.walker(0), x -> x.deed(0, 0, 1),
            x -> x.event(0, 0, true), x -> x.timer(0, 1, true), x -> x.daemon(0, 0)};
        for (int i = 0; i < calls.length; i++) {
            TurnClock x = new TurnClock();
            Worlds.full(x);
            due("13: call " + i + " is refused", calls[i].on(x), ROOM);
            due("13: call " + i + " closes nothing", x.told(5), 2);
            due("13: back()", x.back(), 1);
            due("13: back()", x.back(), 0);
            due("13: back()", x.back(), STATE);
        }
    }
}
