import java.util.NoSuchElementException;

/** Turns secrets step by step; ../shared/DOC.md says what each call promises. */
public final class KeyTurner {
    public static final int NONE = -1;

    private static final int TWO = 0;
    private static final int ONE = 1;

    private static final int MOST_SECRETS = 12;
    private static final int MOST_LIFE = 10000;
    private static final int MOST_DELAY = 20;
    private static final int MOST_QUIET = 1000;
    private static final int MOST_LAST = 10000;
    private static final int MOST_TICKS = 2000;
    private static final int END_OF_TIME = 100000;

    private static final int HOLDERS = 10;
    private static final int CHECKERS = 6;
    private static final int READERS = HOLDERS + CHECKERS;
    private static final int TURNER = READERS;
    private static final int ALL_HOLDERS = (1 << HOLDERS) - 1;
    private static final int ALL_CHECKERS = (1 << CHECKERS) - 1;

    private static final int NO_STEP = 0;
    private static final int STEP_GOOD_TOO = 1;
    private static final int STEP_HAND_OUT = 2;
    private static final int STEP_WAIT = 3;
    private static final int STEP_ALONE = 4;
    private static final int STEP_SWAP = 5;
    private static final int MOST_STEPS = 5;

    private final Secret[] secrets = new Secret[MOST_SECRETS];
    private final Course[] courses = new Course[MOST_SECRETS];
    private final Web web = new Web();
    private final People people = new People();
    private final Log log = new Log();
    private int secretCount = 0;
    private int now = 0;
    private int quiet = 10;
    private int last = 100;
    private int passed = 0;
    private int failed = 0;

    public KeyTurner() {
        for (int i = 0; i < MOST_SECRETS; i++) {
            courses[i] = new Course();
            secrets[i] = courses[i].secret;
        }
    }

    public int secret(int kind, int holders, int checkers, int life) {
        boolean fits = kind >= TWO && kind <= ONE
            && holders >= 0 && holders <= ALL_HOLDERS
            && checkers >= 1 && checkers <= ALL_CHECKERS
            && life >= 1 && life <= MOST_LIFE;
        if (!fits || secretCount >= MOST_SECRETS) {
            return NONE;
        }
        secrets[secretCount].open(kind, holders, checkers, life, now);
        secretCount++;
        return secretCount - 1;
    }

    public boolean needs(int secret, int other, boolean is) {
        if (!isSecret(secret) || !isSecret(other) || web.isDirect(secret, other) == is) {
            return false;
        }
        if (is && (secret == other || web.isReached(other, secret))) {
            return false;
        }
        web.put(secret, other, is);
        return true;
    }

    public boolean delay(int who, int ticks) {
        if (who < 0 || who >= READERS || ticks < 0 || ticks > MOST_DELAY) {
            return false;
        }
        people.delays[who] = ticks;
        return true;
    }

    public boolean quiet(int ticks, int last) {
        if (ticks < 0 || ticks > MOST_QUIET || last < 0 || last > MOST_LAST) {
            return false;
        }
        this.quiet = ticks;
        this.last = last;
        return true;
    }

    public boolean down(int who, boolean is) {
        if (who < 0 || who > TURNER || people.isDown(who) == is) {
            return false;
        }
        people.downBits ^= 1 << who;
        return true;
    }

    public int turn(int secret) {
        if (!isSecret(secret) || people.isDown(TURNER) || isHeldUp(secret)) {
            return NONE;
        }
        beginTurn(secret, false);
        return secrets[secret].latest;
    }

    public int stolen(int secret) {
        if (!isSecret(secret) || people.isDown(TURNER)) {
            return NONE;
        }
        Course course = courses[secret];
        if (course.goesOn()) {
            course.hurry(now, people);
            log.markStolen(course.turn);
        } else {
            beginTurn(secret, true);
        }
        return secrets[secret].latest;
    }

    public int tick(int n) {
        if (n < 0 || n > MOST_TICKS || n > END_OF_TIME - now) {
            return NONE;
        }
        int end = now + n;
        for (int i = 0; i < n && now < end; i++) {
            now = nextStir(end);
            for (int s = 0; s < secretCount; s++) {
                courses[s].takeLetters(now, people);
            }
            if (!people.isDown(TURNER)) {
                for (int s = 0; s < secretCount; s++) {
                    goOn(courses[s]);
                }
            }
        }
        return now;
    }

    public int ask(int holder, int secret, int checker) {
        if (!isSecret(secret)) {
            return NONE;
        }
        Secret asked = secrets[secret];
        if (!isIn(asked.holders, holder) || !isIn(asked.checkers, checker)) {
            return NONE;
        }
        int version = asked.versionOf(holder);
        boolean passes = !people.isDown(holder) && opens(asked, checker, version);
        return noteAsk(courses[secret], holder, version, passes);
    }

    public int stranger(int who, int secret, int checker, int version) {
        if (!isSecret(secret) || who < 0 || who >= HOLDERS) {
            return NONE;
        }
        Secret asked = secrets[secret];
        if (isIn(asked.holders, who) || !isIn(asked.checkers, checker)
            || version < 0 || version > asked.latest) {
            return NONE;
        }
        return noteAsk(courses[secret], who, version, opens(asked, checker, version));
    }

    public int told(int secret, int what) {
        if (!isSecret(secret)) {
            return NONE;
        }
        Secret of = secrets[secret];
        Course course = courses[secret];
        switch (what) {
            case 0: return of.kind;
            case 1: return of.holders;
            case 2: return of.checkers;
            case 3: return of.life;
            case 4: return of.latest;
            case 5: return course.step;
            case 6: return of.latestMade;
            case 7: return now - of.oldestGoodMade();
            case 8: return course.late;
            case 9: return of.lockedOut();
            case 10: return course.letterCount();
            case 11: return course.goesOn() ? course.stepBegan : NONE;
            default: return NONE;
        }
    }

    public int has(int holder, int secret) {
        if (!isSecret(secret) || !isIn(secrets[secret].holders, holder)) {
            return NONE;
        }
        return secrets[secret].versionOf(holder);
    }

    public int good(int checker, int secret, int version) {
        if (!isSecret(secret) || !isIn(secrets[secret].checkers, checker)) {
            return NONE;
        }
        return secrets[secret].isGoodAt(checker, version) ? 1 : 0;
    }

    public int plan(int i) {
        if (i < 0 || i >= secretCount) {
            return NONE;
        }
        int placed = 0;
        int next = NONE;
        for (int k = 0; k <= i; k++) {
            next = nextOfPlan(placed);
            if (next == NONE) {
                return NONE;
            }
            placed |= 1 << next;
        }
        return next;
    }

    public boolean hangs(int secret, int other) {
        return isSecret(secret) && isSecret(other) && web.isReached(secret, other);
    }

    public int turned(int i, int what) throws NoSuchElementException {
        if (!log.isKept(i) || what < 0 || what >= Log.WIDTH) {
            throw new NoSuchElementException("no such turn, or nothing such is kept of it");
        }
        return log.rows[i * Log.WIDTH + what];
    }

    public int count(int what) {
        switch (what) {
            case 0: return now;
            case 1: return secretCount;
            case 2: return log.begun;
            case 3: return turnsGoingOn();
            case 4: return lettersUnanswered();
            case 5: return passed;
            case 6: return failed;
            case 7: return secretsPastLife();
            default: return NONE;
        }
    }

    private static boolean isIn(int bits, int i) {
        return i >= 0 && i < READERS && ((bits >> i) & 1) != 0;
    }

    private boolean isSecret(int secret) {
        return secret >= 0 && secret < secretCount;
    }

    private void beginTurn(int secret, boolean isStolen) {
        secrets[secret].makeVersion(now);
        int turn = log.add(secret, secrets[secret].latest, now, isStolen);
        courses[secret].start(turn, isStolen, now, people);
    }

    /** Whether a TURN by hand must not begin: one of the SECRET itself or of a kin of it goes on. */
    private boolean isHeldUp(int secret) {
        for (int other = 0; other < secretCount; other++) {
            boolean kin = other == secret
                || web.isReached(secret, other) || web.isReached(other, secret);
            if (kin && courses[other].goesOn()) {
                return true;
            }
        }
        return false;
    }

    /** The next TICK on which anything can happen; the ones before it only count NOW up. */
    private int nextStir(int end) {
        int next = end;
        for (int s = 0; s < secretCount; s++) {
            next = Math.min(next, courses[s].nextLetter(end, people));
            if (!people.isDown(TURNER)) {
                next = Math.min(next, courses[s].nextStepEnd(end, now, quiet, last));
            }
        }
        // What has waited for somebody who was DOWN may lie behind NOW: it happens on the next TICK.
        return Math.max(next, now + 1);
    }

    private void goOn(Course course) {
        for (int i = 0; i < MOST_STEPS && course.isStepOver(now, quiet, last); i++) {
            int next = course.followingStep();
            if (next == NO_STEP) {
                log.markOver(course.turn, now);
            }
            course.beginStep(next, now, people);
        }
    }

    private boolean opens(Secret asked, int checker, int version) {
        return !people.isDown(HOLDERS + checker) && asked.isGoodAt(checker, version);
    }

    private int noteAsk(Course course, int who, int version, boolean passes) {
        if (!passes) {
            failed++;
            return 0;
        }
        passed++;
        course.notePass(who, version, now);
        return 1;
    }

    private int nextOfPlan(int placed) {
        int best = NONE;
        for (int s = 0; s < secretCount; s++) {
            boolean free = !isIn(placed, s) && (web.direct[s] & ~placed) == 0;
            if (free && (best == NONE || secrets[s].endOfLife() < secrets[best].endOfLife())) {
                best = s;
            }
        }
        return best;
    }

    private int turnsGoingOn() {
        int sum = 0;
        for (int s = 0; s < secretCount; s++) {
            sum += courses[s].goesOn() ? 1 : 0;
        }
        return sum;
    }

    private int lettersUnanswered() {
        int sum = 0;
        for (int s = 0; s < secretCount; s++) {
            sum += courses[s].letterCount();
        }
        return sum;
    }

    private int secretsPastLife() {
        int sum = 0;
        for (int s = 0; s < secretCount; s++) {
            sum += now - secrets[s].oldestGoodMade() > secrets[s].life ? 1 : 0;
        }
        return sum;
    }

    /**
     * A SECRET and who knows which VERSION of it. A TURN is only over when everybody has taken the
     * new VERSION, so none but the latest and the one before it are ever in use: bits tell both.
     */
    private static final class Secret {
        int kind = TWO;
        int holders = 0;
        int checkers = 0;
        int life = 0;
        int latest = 0;
        int latestMade = 0;
        int olderMade = 0;
        int latestHeld = 0;
        int latestGood = 0;
        int olderGood = 0;

        void open(int kind, int holders, int checkers, int life, int now) {
            this.kind = kind;
            this.holders = holders;
            this.checkers = checkers;
            this.life = life;
            latestMade = now;
            latestHeld = holders;
            latestGood = checkers;
        }

        void makeVersion(int now) {
            latest++;
            olderMade = latestMade;
            latestMade = now;
            latestHeld = 0;
            olderGood = latestGood;
            latestGood = 0;
        }

        int versionOf(int holder) {
            return isIn(latestHeld, holder) ? latest : latest - 1;
        }

        boolean isGoodAt(int checker, int version) {
            if (version == latest) {
                return isIn(latestGood, checker);
            }
            return version == latest - 1 && isIn(olderGood, checker);
        }

        int oldestGoodMade() {
            return olderGood != 0 ? olderMade : latestMade;
        }

        int lockedOut() {
            int withLatest = latestGood == checkers ? 0 : latestHeld;
            int withOlder = olderGood == checkers ? 0 : holders & ~latestHeld;
            return withLatest | withOlder;
        }

        int endOfLife() {
            return latestMade + life;
        }
    }

    /** The TURN at hand of one SECRET, with its LETTERS; the same object serves each of its TURNS. */
    private static final class Course {
        final Secret secret = new Secret();
        final int[] comes = new int[READERS];
        int unanswered = 0;
        int turn = NONE;
        int step = NO_STEP;
        int stepBegan = 0;
        int late = 0;
        int latestLateAsk = 0;
        boolean handsOutLast = false;

        boolean goesOn() {
            return step != NO_STEP;
        }

        int letterCount() {
            return Integer.bitCount(unanswered);
        }

        void start(int turn, boolean isStolen, int now, People people) {
            this.turn = turn;
            handsOutLast = isStolen || secret.kind == ONE;
            beginStep(secret.kind == ONE ? STEP_SWAP : STEP_GOOD_TOO, now, people);
        }

        void hurry(int now, People people) {
            if (secret.kind == ONE) {
                return;
            }
            if (step == STEP_GOOD_TOO) {
                handsOutLast = true;
            } else if (step == STEP_HAND_OUT || step == STEP_WAIT) {
                handsOutLast = false;
                beginStep(STEP_ALONE, now, people);
            }
        }

        void beginStep(int next, int now, People people) {
            step = next;
            stepBegan = now;
            latestLateAsk = now;
            late = 0;
            if (next == STEP_HAND_OUT) {
                write(secret.holders, now, people);
            } else if (next != STEP_WAIT && next != NO_STEP) {
                write(secret.checkers << HOLDERS, now, people);
            }
        }

        void write(int readers, int now, People people) {
            for (int who = 0; who < READERS; who++) {
                if (isIn(readers, who)) {
                    comes[who] = now + Math.max(1, people.delays[who]);
                }
            }
            unanswered |= readers;
        }

        /** Each of one reader's LETTERS is of another SECRET, so they may be taken in any order. */
        void takeLetters(int now, People people) {
            for (int who = 0; who < READERS && unanswered != 0; who++) {
                if (isIn(unanswered, who) && comes[who] <= now && !people.isDown(who)) {
                    act(who);
                    unanswered &= ~(1 << who);
                }
            }
        }

        /** A STEP that writes to CHECKERS ends with all answered: their LETTERS are of the one at hand. */
        void act(int who) {
            if (who < HOLDERS) {
                secret.latestHeld |= 1 << who;
                return;
            }
            int checker = 1 << (who - HOLDERS);
            secret.latestGood |= checker;
            if (step != STEP_GOOD_TOO) {
                secret.olderGood &= ~checker;
            }
        }

        boolean isStepOver(int now, int quiet, int last) {
            if (step == STEP_WAIT) {
                return now >= endOfWait(quiet, last);
            }
            return goesOn() && unanswered == 0;
        }

        int endOfWait(int quiet, int last) {
            return Math.min(latestLateAsk + quiet, stepBegan + last);
        }

        int followingStep() {
            switch (step) {
                case STEP_GOOD_TOO: return handsOutLast ? STEP_ALONE : STEP_HAND_OUT;
                case STEP_HAND_OUT: return handsOutLast ? NO_STEP : STEP_WAIT;
                case STEP_WAIT: return STEP_ALONE;
                case STEP_ALONE: return handsOutLast ? STEP_HAND_OUT : NO_STEP;
                case STEP_SWAP: return STEP_HAND_OUT;
                default: return NO_STEP;
            }
        }

        int nextLetter(int end, People people) {
            int next = end;
            for (int who = 0; who < READERS && unanswered != 0; who++) {
                if (isIn(unanswered, who) && !people.isDown(who)) {
                    next = Math.min(next, comes[who]);
                }
            }
            return next;
        }

        int nextStepEnd(int end, int now, int quiet, int last) {
            if (step == STEP_WAIT) {
                return endOfWait(quiet, last);
            }
            return isStepOver(now, quiet, last) ? now : end;
        }

        void notePass(int who, int version, int now) {
            if (goesOn() && version < secret.latest) {
                late |= 1 << who;
                latestLateAsk = now;
            }
        }
    }

    /** Who is DOWN, and how long LETTERS take to each. */
    private static final class People {
        final int[] delays = new int[READERS];
        int downBits = 0;

        People() {
            for (int who = 0; who < READERS; who++) {
                delays[who] = 1;
            }
        }

        boolean isDown(int who) {
            return who >= 0 && who <= TURNER && ((downBits >> who) & 1) != 0;
        }
    }

    /** Which SECRETS each one NEEDS, as bits; it never goes round. */
    private static final class Web {
        final int[] direct = new int[MOST_SECRETS];

        boolean isDirect(int secret, int other) {
            return isIn(direct[secret], other);
        }

        void put(int secret, int other, boolean is) {
            int bit = 1 << other;
            direct[secret] = is ? direct[secret] | bit : direct[secret] & ~bit;
        }

        boolean isReached(int secret, int other) {
            int reached = direct[secret];
            int before = 0;
            // Each round but the last adds a SECRET, so there are no more rounds than SECRETS.
            for (int round = 0; round < MOST_SECRETS && reached != before; round++) {
                before = reached;
                for (int s = 0; s < MOST_SECRETS; s++) {
                    reached |= isIn(before, s) ? direct[s] : 0;
                }
            }
            return isIn(reached, other);
        }
    }

    /** All TURNS as they began; the first ones are kept, a row of WIDTH numbers each. */
    private static final class Log {
        static final int KEPT = 500;
        static final int WIDTH = 5;
        static final int SECRET = 0;
        static final int VERSION = 1;
        static final int BEGAN = 2;
        static final int OVER = 3;
        static final int STOLEN = 4;

        final int[] rows = new int[KEPT * WIDTH];
        int begun = 0;

        boolean isKept(int turn) {
            return turn >= 0 && turn < begun && turn < KEPT;
        }

        int add(int secret, int version, int now, boolean isStolen) {
            int turn = begun;
            begun++;
            if (isKept(turn)) {
                int row = turn * WIDTH;
                rows[row + SECRET] = secret;
                rows[row + VERSION] = version;
                rows[row + BEGAN] = now;
                rows[row + OVER] = NONE;
                rows[row + STOLEN] = isStolen ? 1 : 0;
            }
            return turn;
        }

        void markOver(int turn, int now) {
            if (isKept(turn)) {
                rows[turn * WIDTH + OVER] = now;
            }
        }

        void markStolen(int turn) {
            if (isKept(turn)) {
                rows[turn * WIDTH + STOLEN] = 1;
            }
        }
    }
}
