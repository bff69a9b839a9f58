import java.util.Random;

/** Runs of 512 calls by a fixed seed, each answer held to the plain model's. */
public final class RandomRunsTest {
    private static final int RUNS = 1500, CALLS = 512, FIRST_TELLING = 12, KINDS = 21;
    private static final int TURN = 10, BACK = 11;

    private final Random random;
    private final TurnClock clock = new TurnClock();
    private final PlainModel model = new PlainModel();
    private final Check check;
    /** How lively a run is differs: many things at first, or few. */
    private final int makingCalls;
    private int calls = 0;

    private RandomRunsTest(int seed, Check check) {
        random = new Random(seed);
        makingCalls = 20 + random.nextInt(180);
        this.check = check;
    }

    public static void main(String[] args) {
        Check check = new Check();
        for (int seed = 0; seed < RUNS; seed++) {
            new RandomRunsTest(seed, check).run();
        }
        check.end();
    }

    private void run() {
        while (calls < CALLS) {
            int call = nextCall();
            compare(call, number(call, 0), number(call, 1), number(call, 2));
            if (call == TURN || call == BACK) {
                look();
            }
        }
    }

    private int nextCall() {
        if (calls < makingCalls) {
            return random.nextInt(9);
        }
        int n = random.nextInt(100);
        if (n < 45) return TURN;
        if (n < 60) return BACK;
        if (n < 70) return 8;
        return random.nextInt(KINDS);
    }

    /** Some telling calls behind a turn, as many as the 512 allow. */
    private void look() {
        for (int i = 0; i < 6 && calls < CALLS; i++) {
            int call = FIRST_TELLING + random.nextInt(KINDS - FIRST_TELLING);
            compare(call, number(call, 0), number(call, 1), 0);
        }
    }

    /** Mostly numbers that fit; now and then one that does not. */
    private int number(int call, int place) {
        if (random.nextInt(40) == 0) {
            int[] odd = {Integer.MIN_VALUE, -1001, -2, -1, 61, 601, 1001, 1440, Integer.MAX_VALUE};
            return odd[random.nextInt(odd.length)];
        }
        if (call == 3) return place == 0 ? random.nextInt(9) : random.nextInt(10);
        if (call == 4) return place == 0 ? random.nextInt(40) : place == 1 ? random.nextInt(9) - 1 : random.nextInt(12) - 3;
        if (call == 5 && place == 1) return random.nextInt(3) == 0 ? random.nextInt(1441) : random.nextInt(40);
        if (call == 6 && place == 1) return 1 + random.nextInt(4);
        if (call == 9) return random.nextInt(62);
        if (call >= 4 && call <= 8 && place == 0) return random.nextInt(30);
        if (call >= 16 && call <= 17) return random.nextInt(place == 0 && call == 16 ? 4 : 5);
        if (call == 19) return place == 0 ? random.nextInt(12) : random.nextInt(3);
        return place == 2 ? random.nextInt(2) : random.nextInt(11);
    }

    private void compare(int call, int a, int b, int c) {
        // SORT 8 needs larger numbers than the others, so that days go by.
        int y = call == 3 && a == 8 && c > 0 && c < 60 ? c * 60 : c;
        calls++;
        check.due("call " + calls + ": " + call + "(" + a + ", " + b + ", " + y + ")",
            answer(call, a, b, y), model.answer(call, a, b, y));
    }

    private int answer(int call, int a, int b, int c) {
        switch (call) {
            case 0: return clock.room();
            case 1: return clock.door(a, b);
            case 2: return clock.walker(a);
            case 3: return clock.deed(a, b, c);
            case 4: return clock.condition(a, b, c);
            case 5: return clock.event(a, b, c > 0);
            case 6: return clock.timer(a, b, c > 0);
            case 7: return clock.daemon(a, b);
            case 8: return clock.act(a);
            case 9: return clock.pace(a);
            case 10: return clock.turn();
            case 11: return clock.back();
            case 12: return clock.told(a);
            case 13: return clock.count(a);
            case 14: return clock.counter(a);
            case 15: return clock.left(a);
            case 16: return clock.is(a, b);
            case 17: return clock.walks(a, b);
            case 18: return clock.way(a, b);
            case 19: return clock.row(a, b);
            default: return clock.minutes(a);
        }
    }
}
