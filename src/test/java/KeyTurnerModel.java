import java.util.ArrayList;
import java.util.Iterator;
import java.util.List;
import java.util.NoSuchElementException;
import java.util.Random;
import java.util.TreeSet;

/**
 * Random runs of calls, each answer against a second model that follows the document word by word:
 * LETTERS are objects in the order in which they were written, TICKS go one by one, and each HOLDER
 * and CHECKER has VERSIONS of its own.
 */
public final class KeyTurnerModel {
    private static final int CALLS = 512;
    private static final int RUNS = 3000;
    private static int wrong = 0;

    public static void main(String[] args) {
        for (int seed = 0; seed < RUNS && wrong < 20; seed++) {
            run(seed);
        }
        System.out.println(wrong == 0 ? "the model and the class agree" : wrong + " answers differ");
        if (wrong != 0) {
            System.exit(1);
        }
    }

    /** What a run is like: how long TICKS are, how often somebody goes DOWN, how many SECRETS come. */
    private static void run(int seed) {
        Random r = new Random(seed);
        KeyTurner x = new KeyTurner();
        Model m = new Model();
        int longest = r.nextInt(4) == 0 ? 2000 : 1 + r.nextInt(12);
        int secrets = 1 + r.nextInt(12);
        int calm = 1 + r.nextInt(12);
        List<String> calls = new ArrayList<>();
        for (int i = 0; i < CALLS; i++) {
            int[] c = i < secrets && r.nextInt(8) != 0 ? newSecret(r) : call(r, m, longest, calm);
            String text = text(c);
            calls.add(text);
            long got = answer(x, c);
            long want = answer(m, c);
            if (got != want) {
                wrong++;
                System.out.println("seed " + seed + ", call " + i + ": " + text + " answered " + got
                    + ", due is " + want + "; the run: " + calls);
                return;
            }
            if (i % 16 == 0 && !allAlike(x, m)) {
                wrong++;
                System.out.println("seed " + seed + ", behind call " + i + " " + text + ": states differ; the run: "
                    + calls);
                return;
            }
        }
    }

    private static int[] newSecret(Random r) {
        int holders = r.nextInt(3) == 0 ? r.nextInt(1024) : r.nextInt(8);
        int checkers = r.nextInt(3) == 0 ? r.nextInt(64) : 1 + r.nextInt(3);
        return new int[] {0, r.nextInt(2), holders, checkers, 1 + r.nextInt(r.nextBoolean() ? 60 : 10000)};
    }

    private static int[] call(Random r, Model m, int longest, int calm) {
        int s = near(r, m.secrets.size());
        int holder = near(r, 10);
        int checker = near(r, r.nextBoolean() ? 2 : 6);
        switch (r.nextInt(24)) {
            case 0: return r.nextInt(6) == 0 ? newSecret(r) : new int[] {17, near(r, 8), 0, 0, 0};
            case 1: return new int[] {1, s, near(r, m.secrets.size()), r.nextInt(3) == 0 ? 0 : 1, 0};
            case 2: return new int[] {2, near(r, 16), r.nextInt(3) == 0 ? r.nextInt(23) - 1 : r.nextInt(4), 0, 0};
            case 3: return r.nextInt(5) != 0 ? new int[] {17, near(r, 8), 0, 0, 0}
                : new int[] {3, r.nextInt(9) == 0 ? 1000 + r.nextInt(3) : r.nextInt(15) - 1,
                    r.nextInt(9) == 0 ? 9999 + r.nextInt(3) : r.nextInt(40) - 1, 0, 0};
            case 4: return new int[] {4, near(r, 17), r.nextInt(calm) == 0 ? 1 : 0, 0, 0};
            case 5: return new int[] {4, r.nextBoolean() ? 16 : near(r, 4), r.nextInt(3) == 0 ? 1 : 0, 0, 0};
            case 6: case 7: case 8: return new int[] {5, s, 0, 0, 0};
            case 9: return new int[] {r.nextInt(3) == 0 ? 6 : 5, s, 0, 0, 0};
            case 10: case 11: case 12: case 13: return new int[] {7, r.nextInt(longest + 2) - (r.nextInt(9) == 0 ? 1 : 0), 0, 0, 0};
            case 14: case 15: return new int[] {8, holder, s, checker, 0};
            case 16: return new int[] {9, holder, s, checker, latestOr(m, s) - r.nextInt(3) + r.nextInt(2)};
            case 17: case 18: return new int[] {10, s, near(r, 12), 0, 0};
            case 19: return new int[] {11, holder, s, 0, 0};
            case 20: return new int[] {12, checker, s, latestOr(m, s) - r.nextInt(3) + r.nextInt(2), 0};
            case 21: return new int[] {13, s, 0, 0, 0};
            case 22: return new int[] {14, s, near(r, m.secrets.size()), 0, 0};
            default: return new int[] {15, near(r, m.turns.size()), near(r, 5), 0, 0};
        }
    }

    /** Mostly 0 .. n - 1, now and then one beside it. */
    private static int near(Random r, int n) {
        return r.nextInt(12) == 0 || n == 0 ? (r.nextBoolean() ? -1 : n) : r.nextInt(n);
    }

    private static int latestOr(Model m, int s) {
        return m.isSecret(s) ? m.secrets.get(s).latest() : 0;
    }

    private static String text(int[] c) {
        String[] names = {"secret", "needs", "delay", "quiet", "down", "turn", "stolen", "tick", "ask", "stranger",
            "told", "has", "good", "plan", "hangs", "turned", "?", "count"};
        return names[c[0]] + "(" + c[1] + ", " + c[2] + ", " + c[3] + ", " + c[4] + ")";
    }

    private static long answer(KeyTurner x, int[] c) {
        switch (c[0]) {
            case 0: return x.secret(c[1], c[2], c[3], c[4]);
            case 1: return x.needs(c[1], c[2], c[3] == 1) ? 1 : 0;
            case 2: return x.delay(c[1], c[2]) ? 1 : 0;
            case 3: return x.quiet(c[1], c[2]) ? 1 : 0;
            case 4: return x.down(c[1], c[2] == 1) ? 1 : 0;
            case 5: return x.turn(c[1]);
            case 6: return x.stolen(c[1]);
            case 7: return x.tick(c[1]);
            case 8: return x.ask(c[1], c[2], c[3]);
            case 9: return x.stranger(c[1], c[2], c[3], c[4]);
            case 10: return x.told(c[1], c[2]);
            case 11: return x.has(c[1], c[2]);
            case 12: return x.good(c[1], c[2], c[3]);
            case 13: return x.plan(c[1]);
            case 14: return x.hangs(c[1], c[2]) ? 1 : 0;
            case 15:
                try {
                    return x.turned(c[1], c[2]);
                } catch (NoSuchElementException e) {
                    return Long.MIN_VALUE;
                }
            default: return x.count(c[1]);
        }
    }

    private static long answer(Model m, int[] c) {
        switch (c[0]) {
            case 0: return m.secret(c[1], c[2], c[3], c[4]);
            case 1: return m.needs(c[1], c[2], c[3] == 1) ? 1 : 0;
            case 2: return m.delay(c[1], c[2]) ? 1 : 0;
            case 3: return m.quiet(c[1], c[2]) ? 1 : 0;
            case 4: return m.down(c[1], c[2] == 1) ? 1 : 0;
            case 5: return m.turn(c[1]);
            case 6: return m.stolen(c[1]);
            case 7: return m.tick(c[1]);
            case 8: return m.ask(c[1], c[2], c[3]);
            case 9: return m.stranger(c[1], c[2], c[3], c[4]);
            case 10: return m.told(c[1], c[2]);
            case 11: return m.has(c[1], c[2]);
            case 12: return m.good(c[1], c[2], c[3]);
            case 13: return m.plan(c[1]);
            case 14: return m.hangs(c[1], c[2]) ? 1 : 0;
            case 15: return m.turned(c[1], c[2]);
            default: return m.count(c[1]);
        }
    }

    private static boolean allAlike(KeyTurner x, Model m) {
        boolean alike = true;
        for (int what = 0; what <= 8; what++) {
            alike &= x.count(what) == m.count(what);
        }
        for (int s = 0; s <= m.secrets.size(); s++) {
            alike &= x.plan(s) == m.plan(s);
            for (int what = 0; what <= 12; what++) {
                alike &= x.told(s, what) == m.told(s, what);
            }
            for (int who = 0; who <= 10; who++) {
                alike &= x.has(who, s) == m.has(who, s);
                for (int v = -1; v <= latestOr(m, s) + 1; v++) {
                    alike &= x.good(who, s, v) == m.good(who, s, v);
                }
            }
            for (int o = 0; o <= m.secrets.size(); o++) {
                alike &= x.hangs(s, o) == m.hangs(s, o);
            }
        }
        for (int i = 0; i < m.turns.size(); i++) {
            for (int what = 0; what < 5; what++) {
                alike &= answer(x, new int[] {15, i, what}) == m.turned(i, what);
            }
        }
        return alike;
    }

    private static final class Letter {
        ModelTurn turn;
        int comes;
        int step;
    }

    private static final class ModelTurn {
        ModelSecret secret;
        int number;
        int version;
        int began;
        int over = -1;
        boolean stolen;
        List<Integer> ahead = new ArrayList<>();
        int step;
        int stepBegan;
        int open;
        int latestOldAsk = -1;
        TreeSet<Integer> late = new TreeSet<>();
    }

    private static final class ModelSecret {
        int number;
        int kind;
        int holders;
        int checkers;
        int life;
        List<Integer> made = new ArrayList<>();
        int[] has = new int[10];
        List<TreeSet<Integer>> good = new ArrayList<>();
        TreeSet<Integer> needs = new TreeSet<>();
        ModelTurn turn;

        int latest() {
            return made.size() - 1;
        }
    }

    private static final class Model {
        int now = 0;
        int quiet = 10;
        int last = 100;
        int passed = 0;
        int failed = 0;
        int[] delays = new int[16];
        boolean[] downs = new boolean[17];
        List<ModelSecret> secrets = new ArrayList<>();
        List<ModelTurn> turns = new ArrayList<>();
        List<List<Letter>> boxes = new ArrayList<>();

        Model() {
            for (int who = 0; who < 16; who++) {
                delays[who] = 1;
                boxes.add(new ArrayList<>());
            }
        }

        boolean isSecret(int s) {
            return s >= 0 && s < secrets.size();
        }

        boolean isHolder(int who, int s) {
            return isSecret(s) && who >= 0 && who <= 9 && (secrets.get(s).holders & 1 << who) != 0;
        }

        boolean isChecker(int who, int s) {
            return isSecret(s) && who >= 0 && who <= 5 && (secrets.get(s).checkers & 1 << who) != 0;
        }

        int secret(int kind, int holders, int checkers, int life) {
            if (secrets.size() == 12 || kind < 0 || kind > 1 || holders < 0 || holders > 1023
                || checkers < 1 || checkers > 63 || life < 1 || life > 10000) {
                return -1;
            }
            ModelSecret s = new ModelSecret();
            s.number = secrets.size();
            s.kind = kind;
            s.holders = holders;
            s.checkers = checkers;
            s.life = life;
            s.made.add(now);
            for (int c = 0; c < 6; c++) {
                s.good.add(new TreeSet<>(List.of(0)));
            }
            secrets.add(s);
            return s.number;
        }

        boolean needs(int secret, int other, boolean is) {
            if (!isSecret(secret) || !isSecret(other)) {
                return false;
            }
            TreeSet<Integer> needs = secrets.get(secret).needs;
            if (needs.contains(other) == is || is && (secret == other || hangs(other, secret))) {
                return false;
            }
            return is ? needs.add(other) : needs.remove(other);
        }

        boolean delay(int who, int ticks) {
            if (who < 0 || who > 15 || ticks < 0 || ticks > 20) {
                return false;
            }
            delays[who] = ticks;
            return true;
        }

        boolean quiet(int ticks, int most) {
            if (ticks < 0 || ticks > 1000 || most < 0 || most > 10000) {
                return false;
            }
            quiet = ticks;
            last = most;
            return true;
        }

        boolean down(int who, boolean is) {
            if (who < 0 || who > 16 || downs[who] == is) {
                return false;
            }
            downs[who] = is;
            return true;
        }

        int turn(int secret) {
            if (!isSecret(secret) || downs[16] || secrets.get(secret).turn != null) {
                return -1;
            }
            for (ModelSecret o : secrets) {
                if (o.turn != null && (hangs(secret, o.number) || hangs(o.number, secret))) {
                    return -1;
                }
            }
            return begin(secrets.get(secret), false);
        }

        int begin(ModelSecret s, boolean stolen) {
            s.made.add(now);
            ModelTurn t = new ModelTurn();
            t.secret = s;
            t.number = turns.size();
            t.version = s.latest();
            t.began = now;
            t.stolen = stolen;
            t.ahead.addAll(s.kind == 1 ? List.of(5, 2) : stolen ? List.of(1, 4, 2) : List.of(1, 2, 3, 4));
            turns.add(t);
            s.turn = t;
            nextStep(t);
            return t.version;
        }

        void nextStep(ModelTurn t) {
            if (t.ahead.isEmpty()) {
                t.over = now;
                t.secret.turn = null;
                return;
            }
            t.step = t.ahead.remove(0);
            t.stepBegan = now;
            t.late.clear();
            t.latestOldAsk = -1;
            for (int who = 0; who < 16; who++) {
                boolean to = who < 10 ? t.step == 2 && isHolder(who, t.secret.number)
                    : (t.step == 1 || t.step == 4 || t.step == 5) && isChecker(who - 10, t.secret.number);
                if (to) {
                    Letter l = new Letter();
                    l.turn = t;
                    l.step = t.step;
                    l.comes = delays[who] == 0 ? now + 1 : now + delays[who];
                    boxes.get(who).add(l);
                    t.open++;
                }
            }
        }

        int stolen(int secret) {
            if (!isSecret(secret) || downs[16]) {
                return -1;
            }
            ModelSecret s = secrets.get(secret);
            if (s.turn == null) {
                return begin(s, true);
            }
            ModelTurn t = s.turn;
            t.stolen = true;
            if (s.kind == 0 && t.step == 1) {
                t.ahead.clear();
                t.ahead.addAll(List.of(4, 2));
            } else if (s.kind == 0 && (t.step == 2 || t.step == 3)) {
                t.ahead.clear();
                t.ahead.add(4);
                nextStep(t);
            }
            return s.latest();
        }

        int tick(int n) {
            if (n < 0 || n > 2000 || now + n > 100000) {
                return -1;
            }
            for (int i = 0; i < n; i++) {
                oneTick();
            }
            return now;
        }

        void oneTick() {
            now++;
            for (int who = 0; who < 16; who++) {
                Iterator<Letter> each = boxes.get(who).iterator();
                while (each.hasNext()) {
                    Letter l = each.next();
                    if (l.comes <= now && !downs[who]) {
                        take(l, who);
                        each.remove();
                    }
                }
            }
            if (downs[16]) {
                return;
            }
            for (ModelSecret s : secrets) {
                while (s.turn != null && isOver(s.turn)) {
                    nextStep(s.turn);
                }
            }
        }

        void take(Letter l, int who) {
            ModelSecret s = l.turn.secret;
            if (who < 10) {
                s.has[who] = l.turn.version;
            } else {
                TreeSet<Integer> good = s.good.get(who - 10);
                if (l.step != 1) {
                    good.clear();
                }
                good.add(l.turn.version);
                if (good.size() > 2) {
                    throw new IllegalStateException("at a CHECKER one or two are GOOD");
                }
            }
            l.turn.open--;
        }

        boolean isOver(ModelTurn t) {
            if (t.open > 0) {
                return false;
            }
            if (t.step != 3) {
                return true;
            }
            boolean calm = now - t.stepBegan >= quiet && (t.latestOldAsk == -1 || now - t.latestOldAsk >= quiet);
            return calm || now - t.stepBegan >= last;
        }

        int ask(int holder, int secret, int checker) {
            if (!isHolder(holder, secret) || !isChecker(checker, secret)) {
                return -1;
            }
            return asked(holder, secret, checker, secrets.get(secret).has[holder], downs[holder]);
        }

        int stranger(int who, int secret, int checker, int version) {
            if (!isSecret(secret) || who < 0 || who > 9 || isHolder(who, secret) || !isChecker(checker, secret)
                || version < 0 || version > secrets.get(secret).latest()) {
                return -1;
            }
            return asked(who, secret, checker, version, false);
        }

        int asked(int who, int secret, int checker, int version, boolean isDown) {
            ModelSecret s = secrets.get(secret);
            if (isDown || downs[10 + checker] || !s.good.get(checker).contains(version)) {
                failed++;
                return 0;
            }
            passed++;
            if (s.turn != null && version < s.latest()) {
                s.turn.late.add(who);
                s.turn.latestOldAsk = now;
            }
            return 1;
        }

        int told(int secret, int what) {
            if (!isSecret(secret)) {
                return -1;
            }
            ModelSecret s = secrets.get(secret);
            ModelTurn t = s.turn;
            switch (what) {
                case 0: return s.kind;
                case 1: return s.holders;
                case 2: return s.checkers;
                case 3: return s.life;
                case 4: return s.latest();
                case 5: return t == null ? 0 : t.step;
                case 6: return s.made.get(s.latest());
                case 7: return age(s);
                case 8: return t == null ? 0 : t.late.stream().mapToInt(who -> 1 << who).sum();
                case 9: return lockedOut(s);
                case 10: return (int) boxes.stream().flatMap(List::stream).filter(l -> l.turn == t).count();
                case 11: return t == null ? -1 : t.stepBegan;
                default: return -1;
            }
        }

        int age(ModelSecret s) {
            int oldest = s.latest();
            for (int c = 0; c < 6; c++) {
                if (isChecker(c, s.number)) {
                    oldest = Math.min(oldest, s.good.get(c).first());
                }
            }
            return now - s.made.get(oldest);
        }

        int lockedOut(ModelSecret s) {
            int bits = 0;
            for (int h = 0; h < 10; h++) {
                for (int c = 0; c < 6; c++) {
                    if (isHolder(h, s.number) && isChecker(c, s.number) && !s.good.get(c).contains(s.has[h])) {
                        bits |= 1 << h;
                    }
                }
            }
            return bits;
        }

        int has(int holder, int secret) {
            return isHolder(holder, secret) ? secrets.get(secret).has[holder] : -1;
        }

        int good(int checker, int secret, int version) {
            return !isChecker(checker, secret) ? -1 : secrets.get(secret).good.get(checker).contains(version) ? 1 : 0;
        }

        int plan(int i) {
            List<Integer> row = new ArrayList<>();
            while (row.size() < secrets.size()) {
                ModelSecret best = null;
                for (ModelSecret s : secrets) {
                    if (!row.contains(s.number) && row.containsAll(s.needs)
                        && (best == null || end(s) < end(best))) {
                        best = s;
                    }
                }
                row.add(best.number);
            }
            return i < 0 || i >= row.size() ? -1 : row.get(i);
        }

        int end(ModelSecret s) {
            return s.made.get(s.latest()) + s.life;
        }

        boolean hangs(int secret, int other) {
            if (!isSecret(secret) || !isSecret(other)) {
                return false;
            }
            for (int next : secrets.get(secret).needs) {
                if (next == other || hangs(next, other)) {
                    return true;
                }
            }
            return false;
        }

        long turned(int i, int what) {
            if (i < 0 || i >= turns.size() || i >= 500) {
                return Long.MIN_VALUE;
            }
            ModelTurn t = turns.get(i);
            switch (what) {
                case 0: return t.secret.number;
                case 1: return t.version;
                case 2: return t.began;
                case 3: return t.over;
                case 4: return t.stolen ? 1 : 0;
                default: return Long.MIN_VALUE;
            }
        }

        int count(int what) {
            switch (what) {
                case 0: return now;
                case 1: return secrets.size();
                case 2: return turns.size();
                case 3: return (int) turns.stream().filter(t -> t.over == -1).count();
                case 4: return boxes.stream().mapToInt(List::size).sum();
                case 5: return passed;
                case 6: return failed;
                case 7: return (int) secrets.stream().filter(s -> age(s) > s.life).count();
                default: return -1;
            }
        }
    }
}
