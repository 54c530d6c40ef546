import java.util.ArrayList;
import java.util.List;
import java.util.NoSuchElementException;
import java.util.Random;

/**
 * "What is refused answers as told and changes nothing": behind random runs, each call that is
 * refused, and each that only reads, leaves an object which goes on like a twin without that call.
 */
public final class KeyTurnerRefused {
    private static final int RUNS = 150;
    private static final int TRIES = 60;
    private static final int BEFORE = 110;
    private static final int BEHIND = 110;
    private static final int THROWS = Integer.MIN_VALUE;
    private static final int FIRST_READER = 10;
    private static final int METHODS = 17;
    private static final String[] NAMES = {
        "secret", "needs", "delay", "quiet", "down", "turn", "stolen", "tick", "ask", "stranger",
        "told", "has", "good", "plan", "hangs", "turned", "count",
    };
    private static final int[] EDGES = {
        Integer.MIN_VALUE, -33, -32, -1, 0, 1, 2, 5, 6, 9, 10, 11, 12, 15, 16, 17, 20, 21, 32, 33, 63, 64,
        500, 1000, 1001, 1023, 1024, 2000, 2001, 10000, 10001, 100000, 100001, Integer.MAX_VALUE,
    };
    private static int wrong = 0;

    public static void main(String[] args) {
        int[] refused = new int[METHODS];
        for (int seed = 0; seed < RUNS && wrong < 20; seed++) {
            Random r = new Random(seed);
            List<int[]> before = calls(r, 1 + r.nextInt(BEFORE));
            List<int[]> behind = calls(r, BEHIND);
            for (int i = 0; i < TRIES; i++) {
                int[] call = edgeCall(r);
                if (changesNothing(call, answer(played(before), call))) {
                    refused[call[0]]++;
                    compare(seed, before, call, behind);
                }
            }
        }
        for (int m = 0; m < METHODS; m++) {
            if (refused[m] == 0) {
                wrong++;
                System.out.println(NAMES[m] + " was never tried");
            }
        }
        System.out.println(wrong == 0 ? "what is refused changes nothing" : wrong + " calls changed something");
        if (wrong != 0) {
            System.exit(1);
        }
    }

    private static boolean changesNothing(int[] call, int answer) {
        if (call[0] >= FIRST_READER) {
            return true;
        }
        boolean tellsTruth = call[0] >= 1 && call[0] <= 4;
        return answer == (tellsTruth ? 0 : KeyTurner.NONE);
    }

    private static void compare(int seed, List<int[]> before, int[] call, List<int[]> behind) {
        KeyTurner x = played(before);
        KeyTurner twin = played(before);
        answer(x, call);
        for (int i = 0; i < behind.size(); i++) {
            int[] next = behind.get(i);
            int got = answer(x, next);
            int want = answer(twin, next);
            if (got != want) {
                wrong++;
                System.out.println("seed " + seed + ": behind " + text(call) + " and " + i + " calls more "
                    + text(next) + " answered " + got + ", without it " + want);
                return;
            }
        }
        if (!alike(x, twin)) {
            wrong++;
            System.out.println("seed " + seed + ": behind " + text(call) + " the end is another one");
        }
    }

    private static boolean alike(KeyTurner x, KeyTurner twin) {
        boolean alike = true;
        for (int what = 0; what <= 7; what++) {
            alike &= x.count(what) == twin.count(what);
        }
        for (int s = 0; s < 12; s++) {
            alike &= x.plan(s) == twin.plan(s);
            for (int what = 4; what <= 11; what++) {
                alike &= x.told(s, what) == twin.told(s, what);
            }
            for (int who = 0; who < 10; who++) {
                alike &= x.has(who, s) == twin.has(who, s);
            }
        }
        return alike;
    }

    private static KeyTurner played(List<int[]> calls) {
        KeyTurner x = new KeyTurner();
        for (int[] c : calls) {
            answer(x, c);
        }
        return x;
    }

    private static List<int[]> calls(Random r, int n) {
        List<int[]> calls = new ArrayList<>();
        for (int i = 0; i < n; i++) {
            calls.add(call(r, i < 4 ? 0 : r.nextInt(20)));
        }
        return calls;
    }

    private static int[] call(Random r, int kind) {
        int s = r.nextInt(5);
        switch (kind) {
            case 0: return new int[] {0, r.nextInt(2), r.nextInt(1024), 1 + r.nextInt(63), 1 + r.nextInt(90)};
            case 1: return new int[] {1, s, r.nextInt(5), r.nextInt(2), 0};
            case 2: return new int[] {2, r.nextInt(16), r.nextInt(6), 0, 0};
            case 3: return new int[] {3, r.nextInt(12), r.nextInt(40), 0, 0};
            case 4: return new int[] {4, r.nextInt(17), 1, 0, 0};
            case 5: case 6: return new int[] {4, r.nextInt(17), 0, 0, 0};
            case 7: return new int[] {6, s, 0, 0, 0};
            case 8: case 9: case 10: return new int[] {5, s, 0, 0, 0};
            case 11: case 12: case 13: case 14: return new int[] {7, r.nextInt(r.nextInt(30) == 0 ? 2000 : 4), 0, 0, 0};
            case 15: return new int[] {8, r.nextInt(10), s, r.nextInt(6), 0};
            case 16: case 17: return new int[] {9, r.nextInt(10), s, r.nextInt(6), r.nextInt(4)};
            case 18: return new int[] {12, r.nextInt(6), s, r.nextInt(4), 0};
            default: return new int[] {10, s, r.nextInt(12), 0, 0};
        }
    }

    private static int[] edgeCall(Random r) {
        int[] c = {r.nextInt(METHODS), 0, 0, 0, 0};
        for (int i = 1; i < c.length; i++) {
            c[i] = r.nextInt(3) == 0 ? EDGES[r.nextInt(EDGES.length)] : r.nextInt(5);
        }
        return c;
    }

    private static String text(int[] c) {
        return NAMES[c[0]] + "(" + c[1] + ", " + c[2] + ", " + c[3] + ", " + c[4] + ")";
    }

    private static int bit(boolean is) {
        return is ? 1 : 0;
    }

    private static int answer(KeyTurner x, int[] c) {
        switch (c[0]) {
            case 0: return x.secret(c[1], c[2], c[3], c[4]);
            case 1: return bit(x.needs(c[1], c[2], c[3] == 1));
            case 2: return bit(x.delay(c[1], c[2]));
            case 3: return bit(x.quiet(c[1], c[2]));
            case 4: return bit(x.down(c[1], c[2] == 1));
            case 5: return x.turn(c[1]);
            case 6: return x.stolen(c[1]);
            case 7: return x.tick(c[1]);
            case 8: return x.ask(c[1], c[2], c[3]);
            case 9: return x.stranger(c[1], c[2], c[3], c[4]);
            case 10: return x.told(c[1], c[2]);
            case 11: return x.has(c[1], c[2]);
            case 12: return x.good(c[1], c[2], c[3]);
            case 13: return x.plan(c[1]);
            case 14: return bit(x.hangs(c[1], c[2]));
            case 15: return turnedOrThrows(x, c[1], c[2]);
            default: return x.count(c[1]);
        }
    }

    private static int turnedOrThrows(KeyTurner x, int i, int what) {
        try {
            return x.turned(i, what);
        } catch (NoSuchElementException e) {
            return THROWS;
        }
    }
}
