import java.util.ArrayDeque;
import java.util.ArrayList;
import java.util.Deque;
import java.util.HashMap;
import java.util.HashSet;
import java.util.List;
import java.util.Map;
import java.util.Set;

/**
 * The document said once more, without regard to room or speed: minute by
 * minute, with whole copies of the state. RandomRunsTest holds the class to it.
 */
final class PlainModel {
    private static final int NONE = -1, UNKNOWN = -2, OUTSIDE = -3, STATE = -4, ROOM = -5;

    record Deed(int sort, int x, int y) { }
    record Condition(int c, int least) { }
    record Event(int deed, int minute, boolean daily) { }
    record Timer(int deed, int length, boolean repeated) { }
    record Daemon(int deed, int priority) { }
    record Door(int a, int b) { }
    record Row(int kind, int number) { }

    /** What turns change: names such as "time" or "left 3", each with its value. */
    private Map<String, Integer> state = new HashMap<>();
    private List<Row> theRow = new ArrayList<>();
    private final Deque<Map<String, Integer>> states = new ArrayDeque<>();
    private final Deque<List<Row>> rowsBefore = new ArrayDeque<>();

    private int rooms = 0, walkers = 0, pace = 1;
    private final List<Door> doors = new ArrayList<>();
    private final List<Deed> deeds = new ArrayList<>();
    private final Map<Integer, Condition> conditions = new HashMap<>();
    private final List<Event> events = new ArrayList<>();
    private final List<Timer> timers = new ArrayList<>();
    private final List<Daemon> daemons = new ArrayList<>();
    private final Set<Integer> startedInB = new HashSet<>();
    private boolean ended;

    int answer(int call, int a, int b, int c) {
        switch (call) {
            case 0: return made(rooms, 10) ? rooms++ : ROOM;
            case 1: return door(a, b);
            case 2: return walker(a);
            case 3: return deed(a, b, c);
            case 4: return condition(a, b, c);
            case 5: return event(a, b, c > 0);
            case 6: return timer(a, b, c > 0);
            case 7: return daemon(a, b);
            case 8: return act(a);
            case 9: return pace(a);
            case 10: return turn();
            case 11: return back();
            case 12: return told(a);
            case 13: return count(a);
            case 14: return a < 0 || a > 7 ? OUTSIDE : get("counter " + a);
            case 15: return a < 0 || a >= timers.size() ? UNKNOWN : get("left " + a);
            case 16: return is(a, b);
            case 17: return walks(a, b);
            case 18: return room(a) && room(b) ? distance(a, b) : UNKNOWN;
            case 19: return row(a, b);
            default: return minutes(a);
        }
    }

    private int get(String name) {
        return state.getOrDefault(name, 0);
    }

    private void set(String name, int value) {
        state.put(name, value);
    }

    private boolean made(int size, int most) {
        if (size < most) {
            notBack();
        }
        return size < most;
    }

    private void notBack() {
        states.clear();
        rowsBefore.clear();
    }

    private boolean room(int r) {
        return r >= 0 && r < rooms;
    }

    private int door(int a, int b) {
        if (!room(a) || !room(b)) return UNKNOWN;
        if (a == b) return OUTSIDE;
        if (!made(doors.size(), 15)) return ROOM;
        doors.add(new Door(a, b));
        return doors.size() - 1;
    }

    private int walker(int room) {
        if (!room(room)) return UNKNOWN;
        if (!made(walkers, 4)) return ROOM;
        set("place " + walkers, room);
        set("goal " + walkers, NONE);
        return walkers++;
    }

    private int deed(int sort, int x, int y) {
        if (sort < 0 || sort > 8) return OUTSIDE;
        if (sort == 0 && (x < 0 || x > 7 || y < -1000 || y > 1000)) return OUTSIDE;
        if (sort == 8 && (y < 1 || y > 600)) return OUTSIDE;
        if (!made(deeds.size(), 40)) return ROOM;
        deeds.add(new Deed(sort, x, y));
        return deeds.size() - 1;
    }

    private boolean noDeed(int d) {
        return d < 0 || d >= deeds.size();
    }

    private int condition(int d, int c, int least) {
        if (noDeed(d)) return UNKNOWN;
        if (c < NONE || c > 7 || least < -1000 || least > 1000) return OUTSIDE;
        notBack();
        conditions.remove(d);
        if (c != NONE) conditions.put(d, new Condition(c, least));
        return 1;
    }

    private int event(int d, int minute, boolean daily) {
        if (noDeed(d)) return UNKNOWN;
        if (minute < 0 || minute > 1439) return OUTSIDE;
        if (!made(events.size(), 12)) return ROOM;
        events.add(new Event(d, minute, daily));
        return events.size() - 1;
    }

    private int timer(int d, int length, boolean repeated) {
        if (noDeed(d)) return UNKNOWN;
        if (length < 1 || length > 50) return OUTSIDE;
        if (!made(timers.size(), 12)) return ROOM;
        timers.add(new Timer(d, length, repeated));
        return timers.size() - 1;
    }

    private int daemon(int d, int priority) {
        if (noDeed(d)) return UNKNOWN;
        if (priority < 0 || priority > 9) return OUTSIDE;
        if (!made(daemons.size(), 12)) return ROOM;
        daemons.add(new Daemon(d, priority));
        return daemons.size() - 1;
    }

    private int act(int d) {
        if (noDeed(d)) return UNKNOWN;
        notBack();
        return perform(d) ? 1 : 0;
    }

    private int pace(int n) {
        if (n < 1 || n > 60) return OUTSIDE;
        notBack();
        int was = pace;
        pace = n;
        return was;
    }

    private int turn() {
        states.addLast(new HashMap<>(state));
        rowsBefore.addLast(theRow);
        if (states.size() > 8) {
            states.removeFirst();
            rowsBefore.removeFirst();
        }
        theRow = new ArrayList<>();
        ended = false;
        set("turns", get("turns") + 1);
        partA();
        partB();
        partC();
        partD();
        return theRow.size();
    }

    private void partA() {
        int step = pace + get("skip");
        set("skip", 0);
        List<Integer> came = new ArrayList<>();
        for (int i = 0; i < step; i++) {
            set("time", get("time") + 1);
            if (get("time") == 1440) {
                set("time", 0);
                set("day", get("day") + 1);
            }
            for (int e = 0; e < events.size(); e++) {
                if (events.get(e).minute() == get("time") && get("gone " + e) == 0) came.add(e);
            }
        }
        for (int e : came) {
            if (ended) return;
            if (!events.get(e).daily()) set("gone " + e, 1);
            theRow.add(new Row(0, e));
            perform(events.get(e).deed());
        }
    }

    private void partB() {
        startedInB.clear();
        List<Integer> running = new ArrayList<>();
        for (int t = 0; t < timers.size(); t++) {
            if (get("left " + t) > 0) running.add(t);
        }
        for (int t : running) {
            if (ended) return;
            if (get("left " + t) == 0 || startedInB.contains(t)) continue;
            set("left " + t, get("left " + t) - 1);
            if (get("left " + t) > 0) continue;
            if (timers.get(t).repeated()) set("left " + t, timers.get(t).length());
            theRow.add(new Row(1, t));
            perform(timers.get(t).deed());
        }
    }

    private void partC() {
        List<Integer> order = new ArrayList<>();
        for (int d = 0; d < daemons.size(); d++) order.add(d);
        order.sort((p, q) -> daemons.get(p).priority() - daemons.get(q).priority());
        for (int d : order) {
            if (ended) return;
            if (get("on " + d) == 0) continue;
            theRow.add(new Row(2, d));
            perform(daemons.get(d).deed());
        }
    }

    private void partD() {
        for (int w = 0; w < walkers && !ended; w++) {
            int here = get("place " + w);
            int goal = get("goal " + w);
            if (goal == NONE) continue;
            int best = NONE, fewest = Integer.MAX_VALUE;
            for (int r = 0; r < rooms; r++) {
                int from = distance(r, goal);
                if (!neighbours(here).contains(r) || from == NONE || from >= fewest) continue;
                best = r;
                fewest = from;
            }
            if (best == NONE) continue;
            set("place " + w, best);
            if (best == goal) set("goal " + w, NONE);
            theRow.add(new Row(3, w));
        }
    }

    private Set<Integer> neighbours(int r) {
        Set<Integer> found = new HashSet<>();
        for (int d = 0; d < doors.size(); d++) {
            if (get("shut " + d) == 1) continue;
            if (doors.get(d).a() == r) found.add(doors.get(d).b());
            if (doors.get(d).b() == r) found.add(doors.get(d).a());
        }
        return found;
    }

    private int distance(int from, int to) {
        Set<Integer> reached = new HashSet<>(Set.of(from));
        for (int far = 0; far <= rooms; far++) {
            if (reached.contains(to)) return far;
            for (int r : new ArrayList<>(reached)) reached.addAll(neighbours(r));
        }
        return NONE;
    }

    private boolean perform(int number) {
        Condition condition = conditions.get(number);
        if (condition != null && get("counter " + condition.c()) < condition.least()) return false;
        Deed d = deeds.get(number);
        int x = d.x();
        boolean timerThere = x >= 0 && x < timers.size();
        boolean daemonThere = x >= 0 && x < daemons.size();
        if (d.sort() == 0) {
            set("counter " + x, Math.max(-1000, Math.min(1000, get("counter " + x) + d.y())));
        } else if (d.sort() == 1 && timerThere) {
            set("left " + x, timers.get(x).length());
            startedInB.add(x);
        } else if (d.sort() == 2 && timerThere) {
            set("left " + x, 0);
        } else if ((d.sort() == 3 || d.sort() == 4) && daemonThere) {
            set("on " + x, d.sort() == 3 ? 1 : 0);
        } else if (d.sort() == 5 && x >= 0 && x < doors.size()) {
            set("shut " + x, 1 - get("shut " + x));
        } else if (d.sort() == 6 && x >= 0 && x < walkers && room(d.y())) {
            set("goal " + x, get("place " + x) == d.y() ? NONE : d.y());
        } else if (d.sort() == 7) {
            ended = true;
        } else if (d.sort() == 8) {
            set("skip", Math.min(600, get("skip") + d.y()));
        }
        return true;
    }

    private int back() {
        if (states.isEmpty()) return STATE;
        state = states.removeLast();
        theRow = rowsBefore.removeLast();
        return states.size();
    }

    private int told(int what) {
        if (what < 0 || what > 6) return OUTSIDE;
        return new int[] {get("time"), get("day"), get("turns"), pace, get("skip"),
            states.size(), theRow.size()}[what];
    }

    private int count(int what) {
        if (what < 0 || what > 6) return OUTSIDE;
        return new int[] {rooms, doors.size(), walkers, deeds.size(), events.size(),
            timers.size(), daemons.size()}[what];
    }

    private int is(int kind, int number) {
        if (kind < 0 || kind > 2) return OUTSIDE;
        int size = kind == 0 ? daemons.size() : kind == 1 ? doors.size() : events.size();
        if (number < 0 || number >= size) return UNKNOWN;
        if (kind == 0) return get("on " + number);
        return 1 - get((kind == 1 ? "shut " : "gone ") + number);
    }

    private int walks(int w, int what) {
        if (w < 0 || w >= walkers) return UNKNOWN;
        if (what < 0 || what > 1) return OUTSIDE;
        return get((what == 0 ? "place " : "goal ") + w);
    }

    private int row(int i, int what) {
        if (what < 0 || what > 1) return OUTSIDE;
        if (i < 0 || i >= theRow.size()) return NONE;
        return what == 0 ? theRow.get(i).kind() : theRow.get(i).number();
    }

    private int minutes(int e) {
        if (e < 0 || e >= events.size()) return UNKNOWN;
        if (get("gone " + e) == 1) return NONE;
        for (int n = 1; n < 1440; n++) {
            if ((get("time") + n) % 1440 == events.get(e).minute()) return n;
        }
        return 1440;
    }
}
