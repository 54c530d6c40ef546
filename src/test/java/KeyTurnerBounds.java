import java.util.NoSuchElementException;

/**
 * For each sentence of the document that names a boundary case a test of its own: the last input
 * within the bound, the first one beyond it, and, where a call is refused, that nothing has changed.
 * No object is used for more than the document's 512 calls.
 */
public final class KeyTurnerBounds {
    private static final int NONE = KeyTurner.NONE;
    private static final int MIN = Integer.MIN_VALUE;
    private static final int MAX = Integer.MAX_VALUE;
    private static final int THROWS = Integer.MIN_VALUE + 77;
    private static final int MOST_CALLS = 512;
    private static int wrong = 0;
    private static int checks = 0;
    private static String at = "";

    /** What has been called so far on an object, to be done once more on a twin of it. */
    private interface Run {
        void on(Counted x);
    }

    private interface Call {
        int on(Counted x);
    }

    public static void main(String[] args) {
        terms();
        makingAndTelling();
        turning();
        asking();
        reading();
        System.out.println(wrong == 0 ? "all " + checks + " answers at the bounds are as due"
            : wrong + " answers are not as due");
        if (wrong != 0) {
            System.exit(1);
        }
    }

    private static void terms() {
        nowIsZeroAtFirst();
        nobodyIsDownAtFirst();
        nowIsHundredThousandAtMost();
        tickTakesUpToTwoThousand();
        lettersOnTheLastTick();
        allGoesOnAtTheEndOfTime();
    }

    private static void makingAndTelling() {
        secretsAreTwelveAtMost();
        secretKind();
        secretHolders();
        secretCheckers();
        secretLife();
        versionZeroIsMadeAsItIsTold();
        needsNoSuchOnes();
        needsItIsSo();
        needsWouldGoRound();
        needsOfTwelveInARow();
        delayOutOfBounds();
        delayIsOneAtFirst();
        delayZeroIsTheNextTick();
        delayTwentyOfEach();
        eachLetterWithinALongTick();
        delayCountsAsItIsWritten();
        quietOutOfBounds();
        quietIsTenAtFirst();
        lastIsHundredAtFirst();
        quietZeroAndLastZero();
        quietThousand();
        lastTenThousand();
        quietAgainstLast();
        quietSinceTheLatestOldAsk();
        asksThatDoNotKeepItAwake();
        downNoSuchOne();
        downItIsSo();
        lettersWaitForThoseWhoAreDown();
        turnerDownBetweenSteps();
        turnerDownHindersNothingElse();
    }

    private static void turning() {
        turnNoSuchSecret();
        turnTurnerDown();
        turnWhileOneGoesOn();
        turnWhileKinGoesOn();
        turnAtElevenRemoves();
        stepsWithoutLetters();
        stepWaitsForItsLastLetter();
        oneOrTwoAreGood();
        stolenNoSuchSecret();
        stolenTurnerDown();
        stolenWhateverElseGoesOn();
        stolenInEachStep();
        stolenStepFourWaitsForHolders();
        mostLetters();
        mostTurnsOfOneObject();
    }

    private static void asking() {
        askRefused();
        askPassesOrNot();
        strangerRefused();
        strangerVersions();
        strangerIsNeverDown();
        lateBeginsWithTheStep();
        lateOfEach();
        lockedOutAtOneChecker();
        ageOfTheOldestGood();
    }

    private static void reading() {
        toldOthers();
        hasNoSuch();
        goodNoSuch();
        planWithout();
        planOfSeveralTheLowest();
        hangsOthers();
        turnedNoSuch();
        turnedWhatIsKept();
        countOthers();
        countAboveLife();
        readingChangesNothing();
    }

    // ---- how it is checked ----

    private static void part(String name) {
        at = name;
    }

    private static void due(String call, int got, int want) {
        checks++;
        if (got != want) {
            wrong++;
            System.out.println(at + ": " + call + " answered " + got + ", due is " + want);
        }
    }

    private static int bit(boolean is) {
        return is ? 1 : 0;
    }

    /** The answer of a call behind a run of others, on an object of its own. */
    private static void within(String text, Run before, Call call, int want) {
        due(text, call.on(played(before)), want);
    }

    /** The answer as told, and behind it an object like the one on which the call was never made. */
    private static void refused(String text, Run before, Call call, int want) {
        within(text, before, call, want);
        Run with = x -> {
            before.on(x);
            call.on(x);
        };
        due(text + ": what is told stays", sameTold(played(before), played(with)), 1);
        due(text + ": who has what stays", sameVersions(played(before), played(with)), 1);
        due(text + ": PLAN and NEEDS stay", sameNeeds(played(before), played(with)), 1);
        due(text + ": all goes on alike", sameGoingOn(played(before), played(with)), 1);
        due(text + ": DELAYS and QUIET stay", sameDelays(played(before), played(with)), 1);
        due(text + ": LAST stays", sameLast(played(before), played(with)), 1);
    }

    private static Counted played(Run run) {
        Counted x = new Counted();
        run.on(x);
        return x;
    }

    private static int sameTold(Counted a, Counted b) {
        boolean same = true;
        for (int what = 0; what <= 7; what++) {
            same &= a.count(what) == b.count(what);
        }
        for (int s = 0; s < 12; s++) {
            for (int what = 0; what <= 11; what++) {
                same &= a.told(s, what) == b.told(s, what);
            }
        }
        for (int i = 0; i < 12; i++) {
            for (int what = 0; what <= 4; what++) {
                same &= a.turnedOrThrows(i, what) == b.turnedOrThrows(i, what);
            }
        }
        return bit(same);
    }

    private static int sameVersions(Counted a, Counted b) {
        boolean same = true;
        for (int s = 0; s < 12; s++) {
            int latest = a.told(s, 4);
            for (int who = 0; who < 10; who++) {
                same &= a.has(who, s) == b.has(who, s);
            }
            for (int who = 0; who < 6; who++) {
                same &= a.good(who, s, latest) == b.good(who, s, latest);
                same &= a.good(who, s, latest - 1) == b.good(who, s, latest - 1);
            }
        }
        return bit(same);
    }

    private static int sameNeeds(Counted a, Counted b) {
        boolean same = true;
        for (int s = 0; s < 12; s++) {
            same &= a.plan(s) == b.plan(s);
            for (int o = 0; o < 12; o++) {
                same &= a.hangs(s, o) == b.hangs(s, o);
            }
        }
        for (int who = 0; who <= 16; who++) {
            same &= a.down(who, true) == b.down(who, true);
        }
        return bit(same);
    }

    /** First with those DOWN who are, then with all up: what waited for them is seen then. */
    private static int sameGoingOn(Counted a, Counted b) {
        boolean same = sameTicks(a, b, 8);
        for (int who = 0; who <= 16; who++) {
            same &= a.down(who, false) == b.down(who, false);
        }
        return bit(same & sameTicks(a, b, 24));
    }

    private static boolean sameTicks(Counted a, Counted b, int ticks) {
        boolean same = true;
        for (int i = 0; i < ticks; i++) {
            same &= a.tick(1) == b.tick(1);
            for (int s = 0; s < 4; s++) {
                same &= a.told(s, 5) == b.told(s, 5) & a.told(s, 10) == b.told(s, 10);
            }
            same &= a.count(3) == b.count(3) & a.count(4) == b.count(4);
        }
        return same;
    }

    /** All are up again and a SECRET of all sixteen is turned: its LETTERS show each DELAY. */
    private static int sameDelays(Counted a, Counted b) {
        boolean same = true;
        for (int who = 0; who <= 16; who++) {
            same &= a.down(who, false) == b.down(who, false);
        }
        int s = a.secret(0, 1023, 63, 10000);
        same &= s == b.secret(0, 1023, 63, 10000);
        s = Math.max(s, 0);
        same &= a.stolen(s) == b.stolen(s);
        for (int i = 0; i < 65; i++) {
            same &= a.tick(1) == b.tick(1);
            same &= a.told(s, 10) == b.told(s, 10) & a.told(s, 9) == b.told(s, 9);
        }
        same &= a.turn(s) == b.turn(s);
        for (int i = 0; i < 90; i++) {
            same &= a.tick(1) == b.tick(1) & a.told(s, 5) == b.told(s, 5);
        }
        return bit(same);
    }

    /** A STRANGER asks on each TICK, so that LAST alone ends the waiting. */
    private static int sameLast(Counted a, Counted b) {
        boolean same = true;
        same &= a.down(10, false) == b.down(10, false) & a.down(16, false) == b.down(16, false);
        int s = a.secret(0, 0, 1, 10000);
        same &= s == b.secret(0, 0, 1, 10000);
        s = s == NONE ? 1 : s;
        same &= a.turn(s) == b.turn(s);
        for (int i = 0; i < 125; i++) {
            same &= a.tick(1) == b.tick(1) & a.told(s, 5) == b.told(s, 5);
            same &= a.stranger(9, s, 0, 0) == b.stranger(9, s, 0, 0);
        }
        return bit(same);
    }

    /** One SECRET: kind TWO, HOLDERS 0 and 1, CHECKERS 0 and 1, LIFE 50. */
    private static void two(Counted x) {
        x.secret(0, 3, 3, 50);
    }

    private static void one(Counted x) {
        x.secret(1, 3, 3, 50);
    }

    /** All sixteen in the first of twelve, nobody but a CHECKER in the others. */
    private static void twelve(Counted x) {
        x.secret(0, 1023, 63, 10000);
        for (int i = 1; i < 12; i++) {
            x.secret(0, 0, 1, 10000);
        }
    }

    /** A TURN of TWO in its middle, with somebody DOWN, DELAYS, NEEDS, and an ASK of each kind. */
    private static void busy(Counted x) {
        two(x);
        x.secret(1, 6, 5, 20);
        x.secret(0, 0, 1, 30);
        x.needs(0, 2, true);
        x.delay(0, 4);
        x.delay(11, 3);
        x.quiet(7, 60);
        x.down(1, true);
        x.turn(0);
        x.turn(1);
        x.tick(4);
        x.ask(0, 0, 0);
        x.ask(1, 0, 0);
        x.stranger(8, 0, 1, 0);
    }

    private static void tickTo(Counted x, int now) {
        for (int left = now - x.count(0); left > 0; left = now - x.count(0)) {
            x.tick(Math.min(left, 2000));
        }
    }

    // ---- NOW, promises 1 and 9 ----

    private static void nowIsZeroAtFirst() {
        part("1: NOW 0, no SECRETS");
        Run nothing = x -> { };
        for (int what = 0; what <= 7; what++) {
            int w = what;
            within("count(" + what + ")", nothing, x -> x.count(w), 0);
        }
        within("tick(0)", nothing, x -> x.tick(0), 0);
        within("plan(0)", nothing, x -> x.plan(0), NONE);
        refused("turn(0)", nothing, x -> x.turn(0), NONE);
        refused("stolen(0)", nothing, x -> x.stolen(0), NONE);
        refused("ask(0, 0, 0)", nothing, x -> x.ask(0, 0, 0), NONE);
        refused("stranger(0, 0, 0, 0)", nothing, x -> x.stranger(0, 0, 0, 0), NONE);
        refused("needs(0, 0, true)", nothing, x -> bit(x.needs(0, 0, true)), 0);
        refused("turned(0, 0)", nothing, x -> x.turnedOrThrows(0, 0), THROWS);
    }

    private static void nobodyIsDownAtFirst() {
        part("1: nobody DOWN");
        for (int who = 0; who <= 16; who++) {
            int w = who;
            refused("down(" + who + ", false)", x -> { }, x -> bit(x.down(w, false)), 0);
            within("down(" + who + ", true)", x -> { }, x -> bit(x.down(w, true)), 1);
        }
    }

    private static void nowIsHundredThousandAtMost() {
        part("9: NOW would be above 100,000");
        Run oneLess = x -> {
            two(x);
            tickTo(x, 99999);
        };
        within("tick(1) at 99,999", oneLess, x -> x.tick(1), 100000);
        refused("tick(2) at 99,999", oneLess, x -> x.tick(2), NONE);
        within("tick(2000) at 98,000", x -> tickTo(x, 98000), x -> x.tick(2000), 100000);
        refused("tick(2000) at 98,001", x -> tickTo(x, 98001), x -> x.tick(2000), NONE);
        within("tick(1999) at 98,001", x -> tickTo(x, 98001), x -> x.tick(1999), 100000);
        Run end = x -> {
            two(x);
            tickTo(x, 100000);
        };
        within("tick(0) at 100,000", end, x -> x.tick(0), 100000);
        refused("tick(1) at 100,000", end, x -> x.tick(1), NONE);
        refused("tick(2000) at 100,000", end, x -> x.tick(2000), NONE);
        refused("tick(MAX) at 100,000", end, x -> x.tick(MAX), NONE);
        refused("tick(-1) at 100,000", end, x -> x.tick(-1), NONE);
    }

    private static void tickTakesUpToTwoThousand() {
        part("9: n TICKS, 0 .. 2,000");
        within("tick(0)", KeyTurnerBounds::busy, x -> x.tick(0), 4);
        within("tick(1)", KeyTurnerBounds::busy, x -> x.tick(1), 5);
        within("tick(2000)", KeyTurnerBounds::busy, x -> x.tick(2000), 2004);
        refused("tick(-1)", KeyTurnerBounds::busy, x -> x.tick(-1), NONE);
        refused("tick(2001)", KeyTurnerBounds::busy, x -> x.tick(2001), NONE);
        refused("tick(MAX)", KeyTurnerBounds::busy, x -> x.tick(MAX), NONE);
        refused("tick(MIN)", KeyTurnerBounds::busy, x -> x.tick(MIN), NONE);
        part("9: tick(0) is no TICK");
        refused("tick(0)", KeyTurnerBounds::busy, x -> x.tick(0), 4);
        Run answered = x -> {
            two(x);
            x.turn(0);
            x.down(16, true);
            x.tick(1);
            x.down(16, false);
        };
        refused("tick(0) with a STEP that is over", answered, x -> x.tick(0), 1);
    }

    private static void lettersOnTheLastTick() {
        part("NOW 100,000: LETTERS that come on the last TICK");
        Counted x = new Counted();
        two(x);
        x.delay(10, 20);
        tickTo(x, 99980);
        x.turn(0);
        x.tick(19);
        due("told(0, 10) at 99,999", x.told(0, 10), 1);
        x.tick(1);
        due("told(0, 5) at 100,000", x.told(0, 5), 2);
        due("told(0, 11)", x.told(0, 11), 100000);
        Counted y = new Counted();
        two(y);
        y.delay(10, 20);
        tickTo(y, 99981);
        y.turn(0);
        y.tick(19);
        due("told(0, 5), it would come at 100,001", y.told(0, 5), 1);
        due("told(0, 10)", y.told(0, 10), 1);
        due("tick(1)", y.tick(1), NONE);
        due("told(0, 10)", y.told(0, 10), 1);
        due("turned(0, 3)", y.turnedOrThrows(0, 3), NONE);
    }

    private static void allGoesOnAtTheEndOfTime() {
        part("NOW 100,000: all but TICKS");
        Counted x = new Counted();
        two(x);
        tickTo(x, 100000);
        due("told(0, 7), AGE", x.told(0, 7), 100000);
        due("secret(..)", x.secret(1, 1, 1, 10000), 1);
        due("told(1, 6)", x.told(1, 6), 100000);
        due("told(1, 7)", x.told(1, 7), 0);
        due("turn(0)", x.turn(0), 1);
        due("told(0, 11)", x.told(0, 11), 100000);
        due("told(0, 7)", x.told(0, 7), 100000);
        due("plan(0), 100,050 against 110,000", x.plan(0), 0);
        due("ask(0, 0, 0)", x.ask(0, 0, 0), 1);
        due("told(0, 8)", x.told(0, 8), 1);
        due("stolen(1)", x.stolen(1), 1);
        due("turned(1, 2)", x.turnedOrThrows(1, 2), 100000);
        due("count(7)", x.count(7), 1);
    }

    // ---- secret, promise 2 ----

    private static void secretsAreTwelveAtMost() {
        part("2: there are twelve");
        Run eleven = x -> {
            for (int i = 0; i < 11; i++) {
                x.secret(0, 1, 1, 5);
            }
        };
        within("the twelfth", eleven, x -> x.secret(1, 1, 1, 5), 11);
        refused("the thirteenth", KeyTurnerBounds::twelve, x -> x.secret(1, 1023, 63, 1), NONE);
        refused("the thirteenth, out of bounds", KeyTurnerBounds::twelve, x -> x.secret(2, 1, 1, 1), NONE);
        within("count(1) of twelve", KeyTurnerBounds::twelve, x -> x.count(1), 12);
        within("told(11, 3)", KeyTurnerBounds::twelve, x -> x.told(11, 3), 10000);
        within("told(12, 3)", KeyTurnerBounds::twelve, x -> x.told(12, 3), NONE);
    }

    private static void secretKind() {
        part("2: a kind, 0 or 1");
        within("kind 0", KeyTurnerBounds::busy, x -> x.secret(0, 1, 1, 5), 3);
        within("kind 1", KeyTurnerBounds::busy, x -> x.secret(1, 1, 1, 5), 3);
        for (int kind : new int[] {-1, 2, MIN, MAX}) {
            refused("kind " + kind, KeyTurnerBounds::busy, x -> x.secret(kind, 1, 1, 5), NONE);
        }
    }

    private static void secretHolders() {
        part("2: HOLDERS of 0 .. 9, as bits");
        for (int holders : new int[] {0, 1, 512, 1023}) {
            within("HOLDERS " + holders, KeyTurnerBounds::busy, x -> x.secret(0, holders, 1, 5), 3);
        }
        for (int holders : new int[] {-1, 1024, 1025, MIN, MAX}) {
            refused("HOLDERS " + holders, KeyTurnerBounds::busy, x -> x.secret(0, holders, 1, 5), NONE);
        }
    }

    private static void secretCheckers() {
        part("2: CHECKERS of 0 .. 5, as bits, one at least");
        for (int checkers : new int[] {1, 32, 63}) {
            within("CHECKERS " + checkers, KeyTurnerBounds::busy, x -> x.secret(0, 1, checkers, 5), 3);
        }
        for (int checkers : new int[] {0, 64, 65, -1, MIN, MAX}) {
            refused("CHECKERS " + checkers, KeyTurnerBounds::busy, x -> x.secret(0, 1, checkers, 5), NONE);
        }
    }

    private static void secretLife() {
        part("2: a LIFE, 1 .. 10,000");
        within("LIFE 1", KeyTurnerBounds::busy, x -> x.secret(0, 1, 1, 1), 3);
        within("LIFE 10,000", KeyTurnerBounds::busy, x -> x.secret(0, 1, 1, 10000), 3);
        for (int life : new int[] {0, -1, 10001, MIN, MAX}) {
            refused("LIFE " + life, KeyTurnerBounds::busy, x -> x.secret(0, 1, 1, life), NONE);
        }
        within("the number behind refused ones", x -> {
            x.secret(2, 1, 1, 5);
            x.secret(0, 1024, 1, 5);
            x.secret(0, 1, 0, 5);
            x.secret(0, 1, 1, 0);
        }, x -> x.secret(0, 1, 1, 5), 0);
    }

    private static void versionZeroIsMadeAsItIsTold() {
        part("2: it begins with VERSION 0, made as it is told");
        Counted x = new Counted();
        x.tick(9);
        x.secret(0, 0b1000000001, 0b100001, 5);
        due("told(0, 4)", x.told(0, 4), 0);
        due("told(0, 6)", x.told(0, 6), 9);
        due("told(0, 7)", x.told(0, 7), 0);
        for (int who = 0; who < 10; who++) {
            due("has(" + who + ", 0)", x.has(who, 0), who == 0 || who == 9 ? 0 : NONE);
        }
        for (int who = 0; who < 6; who++) {
            due("good(" + who + ", 0, 0)", x.good(who, 0, 0), who == 0 || who == 5 ? 1 : NONE);
            due("good(" + who + ", 0, 1)", x.good(who, 0, 1), who == 0 || who == 5 ? 0 : NONE);
        }
    }

    // ---- needs, promise 3 ----

    private static void needsNoSuchOnes() {
        part("3: no such ones");
        within("needs(1, 2, true), the last one", KeyTurnerBounds::busy, x -> bit(x.needs(1, 2, true)), 1);
        within("needs(2, 1, true)", KeyTurnerBounds::busy, x -> bit(x.needs(2, 1, true)), 1);
        for (int none : new int[] {-1, 3, 12, 32, MIN, MAX}) {
            refused("needs(0, " + none + ", true)", KeyTurnerBounds::busy, x -> bit(x.needs(0, none, true)), 0);
            refused("needs(" + none + ", 0, true)", KeyTurnerBounds::busy, x -> bit(x.needs(none, 0, true)), 0);
            refused("needs(0, " + none + ", false)", KeyTurnerBounds::busy, x -> bit(x.needs(0, none, false)), 0);
            refused("needs(" + none + ", 0, false)", KeyTurnerBounds::busy, x -> bit(x.needs(none, 0, false)), 0);
        }
    }

    private static void needsItIsSo() {
        part("3: it is so");
        refused("needs(0, 2, true)", KeyTurnerBounds::busy, x -> bit(x.needs(0, 2, true)), 0);
        refused("needs(0, 1, false)", KeyTurnerBounds::busy, x -> bit(x.needs(0, 1, false)), 0);
        refused("needs(0, 0, false)", KeyTurnerBounds::busy, x -> bit(x.needs(0, 0, false)), 0);
        within("needs(0, 2, false)", KeyTurnerBounds::busy, x -> bit(x.needs(0, 2, false)), 1);
        Run undone = x -> {
            busy(x);
            x.needs(0, 2, false);
        };
        refused("needs(0, 2, false) again", undone, x -> bit(x.needs(0, 2, false)), 0);
        within("hangs(0, 2)", undone, x -> bit(x.hangs(0, 2)), 0);
        Run farOff = x -> {
            busy(x);
            x.needs(2, 1, true);
        };
        refused("needs(0, 1, false), only at a remove", farOff, x -> bit(x.needs(0, 1, false)), 0);
        within("needs(0, 1, true), so far only at a remove", farOff, x -> bit(x.needs(0, 1, true)), 1);
    }

    private static void needsWouldGoRound() {
        part("3: it would go round");
        refused("needs(0, 0, true)", KeyTurnerBounds::busy, x -> bit(x.needs(0, 0, true)), 0);
        refused("needs(2, 0, true)", KeyTurnerBounds::busy, x -> bit(x.needs(2, 0, true)), 0);
        Run three = x -> {
            busy(x);
            x.needs(2, 1, true);
        };
        refused("needs(1, 0, true)", three, x -> bit(x.needs(1, 0, true)), 0);
        within("needs(1, 0, true), the link undone", x -> {
            three.on(x);
            x.needs(2, 1, false);
        }, x -> bit(x.needs(1, 0, true)), 1);
        within("two ways to one are not round", x -> {
            for (int i = 0; i < 4; i++) {
                x.secret(0, 1, 1, 5);
            }
            x.needs(0, 1, true);
            x.needs(0, 2, true);
            x.needs(1, 3, true);
        }, x -> bit(x.needs(2, 3, true)), 1);
    }

    private static void chain(Counted x) {
        twelve(x);
        for (int i = 0; i < 11; i++) {
            x.needs(i, i + 1, true);
        }
    }

    private static void needsOfTwelveInARow() {
        part("3: round by all twelve");
        refused("needs(11, 0, true)", KeyTurnerBounds::chain, x -> bit(x.needs(11, 0, true)), 0);
        within("needs(0, 11, true)", KeyTurnerBounds::chain, x -> bit(x.needs(0, 11, true)), 1);
        within("needs(11, 0, true), a link undone", x -> {
            chain(x);
            x.needs(5, 6, false);
        }, x -> bit(x.needs(11, 0, true)), 1);
    }

    // ---- delay, promise 4 ----

    private static void delayOutOfBounds() {
        part("4: out of bounds");
        for (int who : new int[] {0, 9, 10, 15}) {
            within("delay(" + who + ", 0)", KeyTurnerBounds::busy, x -> bit(x.delay(who, 0)), 1);
            within("delay(" + who + ", 20)", KeyTurnerBounds::busy, x -> bit(x.delay(who, 20)), 1);
            refused("delay(" + who + ", -1)", KeyTurnerBounds::busy, x -> bit(x.delay(who, -1)), 0);
            refused("delay(" + who + ", 21)", KeyTurnerBounds::busy, x -> bit(x.delay(who, 21)), 0);
            refused("delay(" + who + ", MIN)", KeyTurnerBounds::busy, x -> bit(x.delay(who, MIN)), 0);
            refused("delay(" + who + ", MAX)", KeyTurnerBounds::busy, x -> bit(x.delay(who, MAX)), 0);
        }
        for (int who : new int[] {-1, 16, 17, 32, MIN, MAX}) {
            refused("delay(" + who + ", 5)", KeyTurnerBounds::busy, x -> bit(x.delay(who, 5)), 0);
        }
        within("delay(0, 4), it is so", KeyTurnerBounds::busy, x -> bit(x.delay(0, 4)), 1);
    }

    private static void delayIsOneAtFirst() {
        part("4: DELAY 1 at first, of each of the sixteen");
        Counted x = new Counted();
        x.secret(0, 1023, 63, 5);
        x.turn(0);
        due("told(0, 10)", x.told(0, 10), 6);
        x.tick(1);
        due("told(0, 5)", x.told(0, 5), 2);
        due("told(0, 10)", x.told(0, 10), 10);
        x.tick(1);
        due("told(0, 5)", x.told(0, 5), 3);
    }

    private static void delayZeroIsTheNextTick() {
        part("4: DELAY 0, but on the next TICK at the earliest");
        Counted x = new Counted();
        two(x);
        for (int who = 0; who < 16; who++) {
            x.delay(who, 0);
        }
        x.turn(0);
        due("told(0, 10) as it is written", x.told(0, 10), 2);
        due("good(0, 0, 1)", x.good(0, 0, 1), 0);
        x.tick(0);
        due("told(0, 10) behind tick(0)", x.told(0, 10), 2);
        x.tick(1);
        due("told(0, 5)", x.told(0, 5), 2);
        due("has(0, 0), written on this TICK", x.has(0, 0), 0);
        due("told(0, 10)", x.told(0, 10), 2);
        x.tick(1);
        due("has(0, 0)", x.has(0, 0), 1);
        due("told(0, 5)", x.told(0, 5), 3);
        x.stolen(0);
        due("told(0, 10), STEP 4 by STOLEN", x.told(0, 10), 2);
        x.tick(1);
        due("told(0, 5)", x.told(0, 5), 0);
    }

    private static void delayTwentyOfEach() {
        part("4: DELAY 20 of each");
        for (int who = 0; who < 16; who++) {
            Counted x = new Counted();
            x.secret(0, 1023, 63, 5);
            x.delay(who, 20);
            x.turn(0);
            boolean holder = who < 10;
            x.tick(holder ? 20 : 19);
            due("LETTERS left, " + who, x.told(0, 10), 1);
            due("STEP, " + who, x.told(0, 5), holder ? 2 : 1);
            due("not taken by " + who, holder ? x.has(who, 0) : x.good(who - 10, 0, 1), 0);
            x.tick(1);
            due("taken by " + who, holder ? x.has(who, 0) : x.good(who - 10, 0, 1), 1);
            due("STEP, " + who, x.told(0, 5), holder ? 3 : 2);
        }
    }

    private static void eachLetterWithinALongTick() {
        part("4: DELAY 20 of each, in one call of tick");
        for (int who = 0; who < 16; who++) {
            Counted x = new Counted();
            x.secret(0, 1023, 63, 5);
            x.quiet(1000, 10000);
            x.delay(who, 20);
            x.turn(0);
            x.tick(60);
            due("STEP, " + who, x.told(0, 5), 3);
            due("begun, " + who, x.told(0, 11), 21);
        }
    }

    private static void delayCountsAsItIsWritten() {
        part("4: DELAY as it is written");
        Counted x = new Counted();
        two(x);
        x.delay(10, 20);
        x.turn(0);
        x.delay(10, 0);
        x.tick(19);
        due("told(0, 5) at 19", x.told(0, 5), 1);
        x.tick(1);
        due("told(0, 5) at 20", x.told(0, 5), 2);
        x.delay(0, 20);
        x.tick(1);
        due("has(0, 0), written with 1", x.has(0, 0), 1);
        due("told(0, 5) at 21", x.told(0, 5), 3);
        x.stolen(0);
        x.tick(1);
        due("told(0, 5), STEP 4 written with 0", x.told(0, 5), 0);
    }

    // ---- quiet, promise 5 ----

    private static void quietOutOfBounds() {
        part("5: out of bounds");
        int[][] right = {{0, 0}, {1000, 10000}, {0, 10000}, {1000, 0}, {7, 60}};
        for (int[] q : right) {
            within("quiet(" + q[0] + ", " + q[1] + ")", KeyTurnerBounds::busy, x -> bit(x.quiet(q[0], q[1])), 1);
        }
        int[][] beyond = {
            {-1, 0}, {1001, 0}, {0, -1}, {0, 10001}, {1001, 10001}, {-1, -1}, {3, 10001}, {1001, 3}, {MIN, 3},
            {3, MIN}, {MAX, 3}, {3, MAX},
        };
        for (int[] q : beyond) {
            refused("quiet(" + q[0] + ", " + q[1] + ")", KeyTurnerBounds::busy, x -> bit(x.quiet(q[0], q[1])), 0);
            refused("quiet(" + q[0] + ", " + q[1] + ") at first", KeyTurnerBounds::two,
                x -> bit(x.quiet(q[0], q[1])), 0);
        }
    }

    /** Of TWO without HOLDERS: STEP 3 begins as the CHECKER's LETTER is taken, at 1. */
    private static void waiting(Counted x, int quiet, int last) {
        x.secret(0, 0, 1, 10000);
        x.quiet(quiet, last);
        x.turn(0);
        x.tick(1);
    }

    private static void stepAt(Counted x, int now, int step) {
        tickTo(x, now);
        due("told(0, 5) at " + now, x.told(0, 5), step);
    }

    private static void quietIsTenAtFirst() {
        part("5: QUIET 10 at first");
        Counted x = new Counted();
        x.secret(0, 0, 1, 10000);
        x.turn(0);
        stepAt(x, 1, 3);
        stepAt(x, 10, 3);
        stepAt(x, 11, 4);
        due("told(0, 11)", x.told(0, 11), 11);
    }

    private static void lastIsHundredAtFirst() {
        part("5: LAST 100 at first");
        Counted x = new Counted();
        x.secret(0, 0, 1, 10000);
        x.turn(0);
        x.tick(1);
        for (int i = 0; i < 99; i++) {
            x.stranger(0, 0, 0, 0);
            x.tick(1);
        }
        stepAt(x, 100, 3);
        due("stranger(0, 0, 0, 0)", x.stranger(0, 0, 0, 0), 1);
        stepAt(x, 101, 4);
    }

    private static void quietZeroAndLastZero() {
        part("5: QUIET 0, LAST 0");
        int[][] zeros = {{0, 0}, {0, 10000}, {1000, 0}};
        for (int[] q : zeros) {
            Counted x = new Counted();
            waiting(x, q[0], q[1]);
            due("told(0, 5), over as it begins", x.told(0, 5), 4);
            due("told(0, 11)", x.told(0, 11), 1);
            stepAt(x, 2, 0);
            due("turned(0, 3)", x.turnedOrThrows(0, 3), 2);
        }
        Counted least = new Counted();
        waiting(least, 1, 10000);
        stepAt(least, 1, 3);
        stepAt(least, 2, 4);
        Counted leastLast = new Counted();
        waiting(leastLast, 1000, 1);
        stepAt(leastLast, 1, 3);
        stepAt(leastLast, 2, 4);
    }

    private static void quietThousand() {
        part("5: QUIET 1,000");
        Counted x = new Counted();
        waiting(x, 1000, 10000);
        stepAt(x, 1000, 3);
        stepAt(x, 1001, 4);
    }

    private static void lastTenThousand() {
        part("5: LAST 10,000");
        Counted x = new Counted();
        waiting(x, 1000, 10000);
        for (int i = 1; i <= 10; i++) {
            tickTo(x, 999 * i);
            due("an ASK with an older VERSION", x.stranger(3, 0, 0, 0), 1);
        }
        stepAt(x, 10000, 3);
        stepAt(x, 10001, 4);
    }

    private static void quietAgainstLast() {
        part("5: QUIET or LAST, which is first");
        int[][] rows = {{9, 8, 9}, {8, 9, 9}, {9, 9, 10}};
        for (int[] row : rows) {
            Counted x = new Counted();
            waiting(x, row[0], row[1]);
            stepAt(x, row[2] - 1, 3);
            stepAt(x, row[2], 4);
        }
        Counted y = new Counted();
        waiting(y, 1000, 10000);
        y.tick(6);
        y.quiet(7, 10000);
        due("told(0, 5), QUIET told anew", y.told(0, 5), 3);
        stepAt(y, 8, 4);
        Counted z = new Counted();
        waiting(z, 1000, 10000);
        z.tick(50);
        z.quiet(1000, 3);
        due("told(0, 5), LAST told anew, over long since", z.told(0, 5), 3);
        stepAt(z, 52, 4);
        due("told(0, 11)", z.told(0, 11), 52);
    }

    private static void quietSinceTheLatestOldAsk() {
        part("5: QUIET since the latest ASK with an older VERSION");
        Counted x = new Counted();
        waiting(x, 4, 100);
        due("as STEP 3 began", x.stranger(3, 0, 0, 0), 1);
        stepAt(x, 4, 3);
        due("one TICK before the end", x.stranger(3, 0, 0, 0), 1);
        stepAt(x, 5, 3);
        stepAt(x, 7, 3);
        stepAt(x, 8, 4);
        Counted y = new Counted();
        waiting(y, 4, 6);
        y.tick(3);
        due("an ASK with an older VERSION", y.stranger(3, 0, 0, 0), 1);
        stepAt(y, 6, 3);
        stepAt(y, 7, 4);
    }

    private static void asksThatDoNotKeepItAwake() {
        part("5: ASKS that do not count for QUIET");
        Counted x = new Counted();
        two(x);
        x.quiet(4, 100);
        x.turn(0);
        x.tick(1);
        due("in STEP 2, before STEP 3 began", x.ask(0, 0, 0), 1);
        stepAt(x, 2, 3);
        x.tick(2);
        due("with the latest VERSION", x.ask(0, 0, 0), 1);
        due("a STRANGER's with the latest", x.stranger(5, 0, 0, 1), 1);
        x.down(10, true);
        due("one that does not pass", x.stranger(5, 0, 0, 0), 0);
        due("a refused one", x.stranger(0, 0, 1, 0), NONE);
        stepAt(x, 5, 3);
        stepAt(x, 6, 4);
        Counted y = new Counted();
        y.secret(0, 0, 1, 9);
        y.secret(0, 0, 1, 9);
        y.quiet(4, 100);
        y.turn(0);
        y.turn(1);
        y.tick(4);
        due("of another SECRET", y.stranger(5, 1, 0, 0), 1);
        stepAt(y, 5, 4);
        due("told(1, 5)", y.told(1, 5), 3);
    }

    // ---- down, promise 6 ----

    private static void downNoSuchOne() {
        part("6: no such one");
        for (int who : new int[] {0, 9, 10, 15, 16}) {
            within("down(" + who + ", true)", KeyTurnerBounds::two, x -> bit(x.down(who, true)), 1);
        }
        for (int who : new int[] {-1, 17, 31, 32, 33, 48, MIN, MAX}) {
            refused("down(" + who + ", true)", KeyTurnerBounds::busy, x -> bit(x.down(who, true)), 0);
            refused("down(" + who + ", false)", KeyTurnerBounds::busy, x -> bit(x.down(who, false)), 0);
        }
    }

    private static void downItIsSo() {
        part("6: it is so");
        for (int who = 0; who <= 16; who++) {
            int w = who;
            Run isDown = x -> {
                two(x);
                x.turn(0);
                x.down(w, true);
            };
            refused("down(" + who + ", true) again", isDown, x -> bit(x.down(w, true)), 0);
            within("down(" + who + ", false)", isDown, x -> bit(x.down(w, false)), 1);
            Run isUp = x -> {
                isDown.on(x);
                x.down(w, false);
            };
            refused("down(" + who + ", false) again", isUp, x -> bit(x.down(w, false)), 0);
            due("DOWN and up between two TICKS", sameTold(played(isUp), played(x -> {
                two(x);
                x.turn(0);
            })), 1);
        }
    }

    private static void lettersWaitForThoseWhoAreDown() {
        part("6: taken as it has come and who it is for is not DOWN");
        Counted x = new Counted();
        two(x);
        x.delay(10, 3);
        x.down(10, true);
        x.turn(0);
        x.tick(2);
        x.down(10, false);
        due("up before it has come", x.told(0, 10), 1);
        x.tick(1);
        due("it comes in its time", x.told(0, 5), 2);
        x.down(0, true);
        x.tick(1);
        due("come, but DOWN", x.told(0, 10), 1);
        due("count(4), waiting", x.count(4), 1);
        x.tick(2000);
        due("still DOWN", x.has(0, 0), 0);
        x.down(0, false);
        due("up, but no TICK yet", x.has(0, 0), 0);
        x.tick(1);
        due("the first TICK behind it", x.has(0, 0), 1);
        due("told(0, 11)", x.told(0, 11), 2005);
        Counted y = new Counted();
        two(y);
        y.delay(10, 3);
        y.turn(0);
        y.tick(2);
        y.down(10, true);
        y.tick(1);
        due("DOWN on the TICK on which it comes", y.told(0, 10), 1);
        y.down(10, false);
        y.tick(1);
        due("one TICK later", y.told(0, 5), 2);
    }

    private static void turnerDownBetweenSteps() {
        part("6: the turner itself was down");
        Counted x = new Counted();
        waiting(x, 4, 10000);
        x.down(16, true);
        x.tick(2000);
        due("told(0, 5)", x.told(0, 5), 3);
        due("told(0, 11)", x.told(0, 11), 1);
        due("an ASK passes", x.stranger(3, 0, 0, 0), 1);
        x.down(16, false);
        due("told(0, 5) before a TICK", x.told(0, 5), 3);
        stepAt(x, 2004, 3);
        stepAt(x, 2005, 4);
        x.down(16, true);
        x.tick(1);
        due("its LETTERS are taken", x.told(0, 10), 0);
        due("good(0, 0, 0)", x.good(0, 0, 0), 0);
        due("told(0, 5)", x.told(0, 5), 4);
        due("turned(0, 3)", x.turnedOrThrows(0, 3), NONE);
        x.down(16, false);
        x.tick(1);
        due("turned(0, 3)", x.turnedOrThrows(0, 3), 2007);
    }

    private static void turnerDownHindersNothingElse() {
        part("6: the turner is DOWN, and only turn() and stolen() are refused");
        Run isDown = x -> {
            busy(x);
            x.down(16, true);
        };
        within("secret(0, 0, 1, 1)", isDown, x -> x.secret(0, 0, 1, 1), 3);
        within("needs(2, 1, true)", isDown, x -> bit(x.needs(2, 1, true)), 1);
        within("delay(0, 20)", isDown, x -> bit(x.delay(0, 20)), 1);
        within("quiet(0, 0)", isDown, x -> bit(x.quiet(0, 0)), 1);
        within("down(0, true)", isDown, x -> bit(x.down(0, true)), 1);
        within("tick(2000)", isDown, x -> x.tick(2000), 2004);
        within("ask(0, 0, 0)", isDown, x -> x.ask(0, 0, 0), 1);
        within("stranger(7, 0, 0, 1)", isDown, x -> x.stranger(7, 0, 0, 1), 1);
        refused("turn(2)", isDown, x -> x.turn(2), NONE);
        refused("stolen(0)", isDown, x -> x.stolen(0), NONE);
    }

    // ---- turn, promise 7 ----

    private static void turnNoSuchSecret() {
        part("7: no such SECRET");
        within("turn(2), the last", KeyTurnerBounds::busy, x -> {
            x.needs(0, 2, false);
            return x.turn(2);
        }, 1);
        for (int none : new int[] {-1, 3, 12, 32, MIN, MAX}) {
            refused("turn(" + none + ")", KeyTurnerBounds::busy, x -> x.turn(none), NONE);
        }
    }

    private static void turnTurnerDown() {
        part("7: the turner is DOWN");
        Run isDown = x -> {
            two(x);
            x.down(16, true);
        };
        refused("turn(0)", isDown, x -> x.turn(0), NONE);
        within("turn(0), up again", x -> {
            isDown.on(x);
            x.down(16, false);
        }, x -> x.turn(0), 1);
        within("turn(0), all others DOWN", x -> {
            two(x);
            for (int who = 0; who < 16; who++) {
                x.down(who, true);
            }
        }, x -> x.turn(0), 1);
    }

    private static void turnWhileOneGoesOn() {
        part("7: it can not be while one goes on of that SECRET");
        int[] stepAtTick = {1, 2, 3, 3, 3, 3, 3, 3, 3, 3, 3, 3, 4};
        for (int t = 0; t < stepAtTick.length; t++) {
            int ticks = t;
            Run inStep = x -> {
                two(x);
                x.turn(0);
                x.tick(ticks);
            };
            within("told(0, 5) at " + t, inStep, x -> x.told(0, 5), stepAtTick[t]);
            refused("turn(0) at " + t, inStep, x -> x.turn(0), NONE);
        }
        within("turn(0) as it is over", x -> {
            two(x);
            x.turn(0);
            x.tick(13);
        }, x -> x.turn(0), 2);
        for (int t = 0; t < 2; t++) {
            int ticks = t;
            refused("turn(0) of ONE at " + t, x -> {
                one(x);
                x.turn(0);
                x.tick(ticks);
            }, x -> x.turn(0), NONE);
        }
        within("turn(0) of ONE as it is over", x -> {
            one(x);
            x.turn(0);
            x.tick(2);
        }, x -> x.turn(0), 2);
    }

    private static void turnWhileKinGoesOn() {
        part("7: nor of one that it NEEDS or that NEEDS it");
        Run apart = x -> {
            for (int i = 0; i < 4; i++) {
                x.secret(1, 0, 1, 5);
            }
            x.needs(0, 1, true);
            x.needs(2, 1, true);
        };
        refused("turn(0), which NEEDS 1", x -> {
            apart.on(x);
            x.turn(1);
        }, x -> x.turn(0), NONE);
        refused("turn(1), which 0 NEEDS", x -> {
            apart.on(x);
            x.turn(0);
        }, x -> x.turn(1), NONE);
        within("turn(2), which NEEDS what 0 NEEDS", x -> {
            apart.on(x);
            x.turn(0);
        }, x -> x.turn(2), 1);
        within("turn(3), no kin", x -> {
            apart.on(x);
            x.turn(0);
        }, x -> x.turn(3), 1);
        within("turn(1), as that is over", x -> {
            apart.on(x);
            x.turn(0);
            x.tick(1);
        }, x -> x.turn(1), 1);
        within("turn(1), no kin any more", x -> {
            apart.on(x);
            x.turn(0);
            x.needs(0, 1, false);
        }, x -> x.turn(1), 1);
        refused("turn(0), kin since 3 goes on", x -> {
            apart.on(x);
            x.turn(3);
            x.needs(0, 3, true);
        }, x -> x.turn(0), NONE);
    }

    private static void turnAtElevenRemoves() {
        part("7: at any remove");
        for (int goesOn : new int[] {0, 11}) {
            for (int other = 0; other < 12; other++) {
                int o = other;
                refused("turn(" + o + ") while " + goesOn + " goes on", x -> {
                    chain(x);
                    x.turn(goesOn);
                }, x -> x.turn(o), NONE);
            }
        }
        within("turn(11), a link undone", x -> {
            chain(x);
            x.turn(0);
            x.needs(5, 6, false);
        }, x -> x.turn(11), 1);
    }

    private static void stepsWithoutLetters() {
        part("7: as long as its STEP is over the next begins");
        Counted x = new Counted();
        waiting(x, 0, 0);
        due("1, 2, 3 on one TICK: told(0, 5)", x.told(0, 5), 4);
        due("told(0, 10)", x.told(0, 10), 1);
        Counted y = new Counted();
        y.secret(1, 0, 32, 5);
        y.turn(0);
        y.tick(1);
        due("5, 2 and over on one TICK: told(0, 5)", y.told(0, 5), 0);
        due("turned(0, 3)", y.turnedOrThrows(0, 3), 1);
        due("told(0, 11)", y.told(0, 11), NONE);
        Counted z = new Counted();
        z.secret(0, 0, 1, 5);
        z.stolen(0);
        z.tick(1);
        due("1, 4: told(0, 5)", z.told(0, 5), 4);
        z.tick(1);
        due("4, 2 and over on one TICK: told(0, 5)", z.told(0, 5), 0);
        due("turned(0, 3)", z.turnedOrThrows(0, 3), 2);
    }

    private static void stepWaitsForItsLastLetter() {
        part("7: a STEP is over as all its LETTERS are ANSWERED");
        Counted x = new Counted();
        x.secret(0, 1023, 63, 5);
        for (int who = 0; who < 10; who++) {
            x.delay(who, who + 1);
        }
        for (int who = 10; who < 16; who++) {
            x.delay(who, 16 - who);
        }
        x.turn(0);
        for (int t = 1; t <= 6; t++) {
            due("told(0, 10) before " + t, x.told(0, 10), 7 - t);
            due("told(0, 5) before " + t, x.told(0, 5), 1);
            x.tick(1);
        }
        for (int t = 1; t <= 10; t++) {
            due("told(0, 10) before " + (6 + t), x.told(0, 10), 11 - t);
            due("told(0, 5) before " + (6 + t), x.told(0, 5), 2);
            x.tick(1);
        }
        due("told(0, 5)", x.told(0, 5), 3);
        due("told(0, 11)", x.told(0, 11), 16);
        due("told(0, 10)", x.told(0, 10), 0);
    }

    private static void oneOrTwoAreGood() {
        part("7: at a CHECKER one or two are GOOD");
        for (int kind = 0; kind <= 1; kind++) {
            Counted x = new Counted();
            x.secret(kind, 3, 3, 50);
            x.delay(11, 4);
            for (int t = 0; t < 60; t++) {
                x.turn(0);
                int latest = x.told(0, 4);
                for (int c = 0; c < 2; c++) {
                    int good = x.good(c, 0, latest) + x.good(c, 0, latest - 1);
                    due("GOOD at " + c + " at " + t, bit(good == 1 || kind == 0 && good == 2), 1);
                }
                x.tick(1);
            }
        }
    }

    // ---- stolen, promise 8 ----

    private static void stolenNoSuchSecret() {
        part("8: no such SECRET");
        within("stolen(2), the last", KeyTurnerBounds::busy, x -> x.stolen(2), 1);
        for (int none : new int[] {-1, 3, 12, 32, MIN, MAX}) {
            refused("stolen(" + none + ")", KeyTurnerBounds::busy, x -> x.stolen(none), NONE);
        }
    }

    private static void stolenTurnerDown() {
        part("8: the turner is DOWN");
        for (int t : new int[] {0, 1, 2, 12, 13}) {
            Run isDown = x -> {
                two(x);
                x.turn(0);
                x.tick(t);
                x.down(16, true);
            };
            refused("stolen(0) at " + t, isDown, x -> x.stolen(0), NONE);
            within("turned(0, 4) at " + t, x -> {
                isDown.on(x);
                x.stolen(0);
            }, x -> x.turnedOrThrows(0, 4), 0);
            within("stolen(0), up again, at " + t, x -> {
                isDown.on(x);
                x.down(16, false);
            }, x -> x.stolen(0), t < 13 ? 1 : 2);
        }
    }

    private static void stolenWhateverElseGoesOn() {
        part("8: one begins, whatever else goes on");
        Counted x = new Counted();
        chain(x);
        x.turn(0);
        for (int s = 1; s < 12; s++) {
            due("stolen(" + s + ")", x.stolen(s), 1);
            due("told(" + s + ", 5)", x.told(s, 5), 1);
        }
        due("count(3)", x.count(3), 12);
        due("count(2)", x.count(2), 12);
    }

    private static void steps(String text, Counted x, int... want) {
        for (int step : want) {
            due(text + ": told(0, 5) at " + x.count(0), x.told(0, 5), step);
            x.tick(1);
        }
    }

    private static void stolenInEachStep() {
        part("8: STOLEN in each STEP");
        int[][] twos = {{0, 1, 4, 2, 0}, {1, 4, 0}, {2, 4, 0}, {3, 4, 0}, {11, 4, 0}, {12, 4, 0}};
        for (int[] row : twos) {
            Counted x = new Counted();
            two(x);
            x.turn(0);
            x.tick(row[0]);
            due("stolen(0) at " + row[0], x.stolen(0), 1);
            due("turned(0, 4)", x.turnedOrThrows(0, 4), 1);
            int[] want = new int[row.length - 1];
            System.arraycopy(row, 1, want, 0, want.length);
            steps("STOLEN at " + row[0], x, want);
            due("count(2)", x.count(2), 1);
        }
        Counted fresh = new Counted();
        two(fresh);
        due("stolen(0), no TURN", fresh.stolen(0), 1);
        steps("no TURN", fresh, 1, 4, 2, 0);
        due("stolen(0), one is over", fresh.stolen(0), 2);
        steps("one is over", fresh, 1, 4, 2, 0);
        int[][] ones = {{0, 5, 2, 0}, {1, 2, 0}};
        for (int[] row : ones) {
            Counted y = new Counted();
            one(y);
            y.turn(0);
            y.tick(row[0]);
            due("stolen(0) of ONE at " + row[0], y.stolen(0), 1);
            int[] want = new int[row.length - 1];
            System.arraycopy(row, 1, want, 0, want.length);
            steps("STOLEN of ONE at " + row[0], y, want);
            due("turned(0, 4)", y.turnedOrThrows(0, 4), 1);
        }
        Counted again = new Counted();
        two(again);
        again.stolen(0);
        again.tick(1);
        due("stolen(0) in STEP 4 of 1, 4, 2", again.stolen(0), 1);
        steps("in STEP 4 all stays", again, 4, 2, 0);
        Counted thrice = new Counted();
        two(thrice);
        thrice.stolen(0);
        thrice.stolen(0);
        steps("in STEP 1 of 1, 4, 2", thrice, 1, 4);
        due("stolen(0) in STEP 2 of 1, 4, 2", thrice.stolen(0), 1);
        steps("STEP 4 begins now, with which it is over", thrice, 4, 0);
        due("turned(0, 3)", thrice.turnedOrThrows(0, 3), 3);
    }

    private static void stolenStepFourWaitsForHolders() {
        part("8: over as all LETTERS of the TURN are ANSWERED");
        Counted x = new Counted();
        two(x);
        x.down(1, true);
        x.turn(0);
        x.tick(2);
        due("told(0, 10), a HOLDER is DOWN", x.told(0, 10), 1);
        x.stolen(0);
        due("told(0, 10), with STEP 4's", x.told(0, 10), 3);
        x.tick(500);
        due("told(0, 5)", x.told(0, 5), 4);
        due("told(0, 9), LOCKED OUT", x.told(0, 9), 2);
        due("told(0, 11)", x.told(0, 11), 2);
        x.down(1, false);
        x.tick(1);
        due("told(0, 5)", x.told(0, 5), 0);
        due("has(1, 0)", x.has(1, 0), 1);
        due("turned(0, 3)", x.turnedOrThrows(0, 3), 503);
    }

    private static void mostLetters() {
        part("8: as many LETTERS as there can be");
        Counted x = new Counted();
        for (int s = 0; s < 12; s++) {
            x.secret(0, 1023, 63, 5);
            x.turn(s);
        }
        due("count(4), STEP 1", x.count(4), 72);
        x.tick(1);
        due("count(4), STEP 2", x.count(4), 120);
        for (int s = 0; s < 12; s++) {
            x.stolen(s);
        }
        due("count(4), STEP 2 and 4", x.count(4), 192);
        due("told(11, 10)", x.told(11, 10), 16);
        x.tick(1);
        due("count(4)", x.count(4), 0);
        due("count(3)", x.count(3), 0);
    }

    private static void mostTurnsOfOneObject() {
        part("512 calls");
        Counted x = new Counted();
        for (int s = 0; s < 12; s++) {
            x.secret(1, 0, 1, 5);
        }
        int rounds = 38;
        for (int i = 0; i < rounds; i++) {
            for (int s = 0; s < 12; s++) {
                x.stolen(s);
            }
            x.tick(1);
        }
        due("count(2)", x.count(2), 12 * rounds);
        due("turned(455, 1)", x.turnedOrThrows(455, 1), 38);
        due("turned(455, 3)", x.turnedOrThrows(455, 3), 38);
        due("turned(456, 0)", x.turnedOrThrows(456, 0), THROWS);
        due("turn(11)", x.turn(11), 39);
        due("turned(456, 0), the 512th call", x.turnedOrThrows(456, 0), 11);
        due("calls", x.calls, MOST_CALLS);
    }

    // ---- ask and stranger, promises 10 and 11 ----

    /** HOLDERS 0 and 9, CHECKERS 0 and 5, in STEP 2: both VERSIONS are GOOD. */
    private static void ends(Counted x) {
        x.secret(0, 0b1000000001, 0b100001, 5);
        x.secret(0, 0, 1, 5);
        x.turn(0);
        x.tick(1);
    }

    private static void askRefused() {
        part("10: no HOLDER, no CHECKER of that SECRET; no such one");
        within("ask(0, 0, 0)", KeyTurnerBounds::ends, x -> x.ask(0, 0, 0), 1);
        within("ask(9, 0, 5)", KeyTurnerBounds::ends, x -> x.ask(9, 0, 5), 1);
        for (int who : new int[] {-1, 1, 8, 10, 16, 32, 41, -32, MIN, MAX}) {
            refused("ask(" + who + ", 0, 0)", KeyTurnerBounds::ends, x -> x.ask(who, 0, 0), NONE);
        }
        for (int who : new int[] {-1, 1, 4, 6, 10, 16, 32, 37, -32, MIN, MAX}) {
            refused("ask(0, 0, " + who + ")", KeyTurnerBounds::ends, x -> x.ask(0, 0, who), NONE);
        }
        for (int s : new int[] {-1, 1, 2, 12, 32, MIN, MAX}) {
            refused("ask(0, " + s + ", 0)", KeyTurnerBounds::ends, x -> x.ask(0, s, 0), NONE);
        }
        refused("ask(1, 0, 0), DOWN and no HOLDER", x -> {
            ends(x);
            x.down(1, true);
        }, x -> x.ask(1, 0, 0), NONE);
    }

    private static void askPassesOrNot() {
        part("10: it passes, or not");
        Counted x = new Counted();
        one(x);
        x.delay(11, 2);
        due("before", x.ask(0, 0, 0), 1);
        x.turn(0);
        due("as it is written", x.ask(0, 0, 0), 1);
        x.tick(1);
        due("not GOOD any more at 0", x.ask(0, 0, 0), 0);
        due("GOOD still at 1", x.ask(0, 0, 1), 1);
        x.down(11, true);
        due("CHECKER DOWN", x.ask(0, 0, 1), 0);
        x.down(11, false);
        x.down(0, true);
        due("HOLDER DOWN", x.ask(0, 0, 1), 0);
        due("another HOLDER", x.ask(1, 0, 1), 1);
        x.down(0, false);
        x.tick(2);
        due("with the new one", x.ask(0, 0, 0), 1);
        due("count(5)", x.count(5), 5);
        due("count(6)", x.count(6), 3);
    }

    private static void strangerRefused() {
        part("11: a HOLDER, none of 0 .. 9; no CHECKER of it; no such SECRET");
        within("stranger(1, 0, 0, 0)", KeyTurnerBounds::ends, x -> x.stranger(1, 0, 0, 0), 1);
        within("stranger(8, 0, 5, 1)", KeyTurnerBounds::ends, x -> x.stranger(8, 0, 5, 1), 1);
        within("stranger(0, 1, 0, 0)", KeyTurnerBounds::ends, x -> x.stranger(0, 1, 0, 0), 1);
        within("stranger(9, 1, 0, 0)", KeyTurnerBounds::ends, x -> x.stranger(9, 1, 0, 0), 1);
        for (int who : new int[] {0, 9, -1, 10, 15, 16, 33, -31, MIN, MAX}) {
            refused("stranger(" + who + ", 0, 0, 0)", KeyTurnerBounds::ends, x -> x.stranger(who, 0, 0, 0), NONE);
        }
        for (int who : new int[] {-1, 1, 4, 6, 10, 32, 37, MIN, MAX}) {
            refused("stranger(3, 0, " + who + ", 0)", KeyTurnerBounds::ends, x -> x.stranger(3, 0, who, 0), NONE);
        }
        for (int s : new int[] {-1, 2, 12, 32, MIN, MAX}) {
            refused("stranger(3, " + s + ", 0, 0)", KeyTurnerBounds::ends, x -> x.stranger(3, s, 0, 0), NONE);
        }
    }

    private static void strangerVersions() {
        part("11: the VERSION is none so far");
        within("the first", KeyTurnerBounds::ends, x -> x.stranger(3, 0, 0, 0), 1);
        within("the latest", KeyTurnerBounds::ends, x -> x.stranger(3, 0, 0, 1), 1);
        for (int v : new int[] {-1, 2, 33, MIN, MAX}) {
            refused("VERSION " + v, KeyTurnerBounds::ends, x -> x.stranger(3, 0, 0, v), NONE);
        }
        within("the latest, not GOOD yet", x -> {
            two(x);
            x.turn(0);
        }, x -> x.stranger(3, 0, 0, 1), 0);
        refused("the next", KeyTurnerBounds::two, x -> x.stranger(3, 0, 0, 1), NONE);
        Run twice = x -> {
            two(x);
            x.turn(0);
            x.tick(13);
            x.turn(0);
            x.tick(1);
        };
        within("VERSION 0, ended long since", twice, x -> x.stranger(3, 0, 0, 0), 0);
        within("VERSION 1", twice, x -> x.stranger(3, 0, 0, 1), 1);
        within("VERSION 2", twice, x -> x.stranger(3, 0, 0, 2), 1);
        refused("VERSION 3", twice, x -> x.stranger(3, 0, 0, 3), NONE);
    }

    private static void strangerIsNeverDown() {
        part("11: never DOWN");
        for (int who = 1; who <= 8; who++) {
            int w = who;
            within("stranger(" + who + ", 0, 0, 0)", x -> {
                ends(x);
                x.down(w, true);
            }, x -> x.stranger(w, 0, 0, 0), 1);
        }
        within("the CHECKER is DOWN", x -> {
            ends(x);
            x.down(10, true);
        }, x -> x.stranger(3, 0, 0, 0), 0);
        within("the other CHECKER is not", x -> {
            ends(x);
            x.down(10, true);
        }, x -> x.stranger(3, 0, 5, 0), 1);
    }

    private static void lateBeginsWithTheStep() {
        part("12: LATE since the STEP at hand began");
        Counted x = new Counted();
        two(x);
        x.stranger(7, 0, 0, 0);
        due("no TURN", x.told(0, 8), 0);
        x.turn(0);
        due("asked on that TICK, but before", x.told(0, 8), 0);
        x.ask(0, 0, 0);
        due("behind it", x.told(0, 8), 1);
        x.tick(0);
        due("tick(0)", x.told(0, 8), 1);
        x.stolen(0);
        due("STOLEN in STEP 1 begins no STEP", x.told(0, 8), 1);
        x.tick(1);
        due("STEP 4 begins", x.told(0, 8), 0);
        x.ask(1, 0, 0);
        x.ask(1, 0, 0);
        due("twice is once", x.told(0, 8), 2);
        x.stolen(0);
        due("in STEP 4 all stays", x.told(0, 8), 2);
        x.tick(1);
        due("STEP 2 begins", x.told(0, 8), 0);
        due("it does not pass", x.ask(0, 0, 0), 0);
        due("LATE", x.told(0, 8), 0);
        x.tick(1);
        x.ask(0, 0, 0);
        due("over", x.told(0, 8), 0);
        Counted y = new Counted();
        two(y);
        y.turn(0);
        y.tick(2);
        y.stranger(9, 0, 0, 0);
        due("in STEP 3", y.told(0, 8), 512);
        y.stolen(0);
        due("STOLEN in STEP 3 begins STEP 4", y.told(0, 8), 0);
        y.stranger(9, 0, 0, 1);
        due("with the latest", y.told(0, 8), 0);
    }

    private static void lateOfEach() {
        part("12: LATE as bits, 0 .. 9");
        Counted x = new Counted();
        x.secret(0, 0b0000011111, 1, 5);
        x.turn(0);
        int bits = 0;
        for (int who = 0; who < 10; who++) {
            due("an ASK of " + who, who < 5 ? x.ask(who, 0, 0) : x.stranger(who, 0, 0, 0), 1);
            bits |= 1 << who;
            due("told(0, 8)", x.told(0, 8), bits);
        }
    }

    private static void lockedOutAtOneChecker() {
        part("12: LOCKED OUT, not GOOD at one CHECKER at least");
        Counted x = new Counted();
        x.secret(1, 1023, 63, 50);
        due("before", x.told(0, 9), 0);
        x.delay(10, 2);
        x.delay(11, 2);
        x.delay(12, 2);
        x.delay(13, 2);
        x.delay(14, 2);
        x.delay(9, 4);
        x.turn(0);
        due("as it begins", x.told(0, 9), 0);
        x.tick(1);
        due("at the last CHECKER alone", x.told(0, 9), 1023);
        x.tick(1);
        due("at all", x.told(0, 9), 1023);
        x.tick(1);
        due("all but the last HOLDER have it", x.told(0, 9), 512);
        x.tick(3);
        due("all have it", x.told(0, 9), 0);
        Counted y = new Counted();
        y.secret(1, 0, 1, 5);
        y.turn(0);
        due("no HOLDERS", y.told(0, 9), 0);
        Counted z = new Counted();
        two(z);
        z.delay(11, 5);
        z.turn(0);
        z.tick(1);
        due("of TWO: the new one at one CHECKER", z.told(0, 9), 0);
    }

    private static void ageOfTheOldestGood() {
        part("12: AGE of the oldest VERSION that is GOOD at a CHECKER");
        Counted x = new Counted();
        x.secret(1, 0, 63, 50);
        x.delay(15, 3);
        due("as it is told", x.told(0, 7), 0);
        x.tick(10);
        due("at 10", x.told(0, 7), 10);
        x.turn(0);
        x.tick(2);
        due("GOOD at the last CHECKER still", x.told(0, 7), 12);
        x.tick(1);
        due("the new one alone", x.told(0, 7), 3);
        Counted y = new Counted();
        two(y);
        y.turn(0);
        y.tick(12);
        due("the TURN goes on", y.told(0, 7), 12);
        y.tick(1);
        due("made as it began, at 0", y.told(0, 7), 13);
        y.turn(0);
        y.tick(12);
        due("VERSION 1 is the oldest", y.told(0, 7), 25);
        y.tick(1);
        due("VERSION 2 alone", y.told(0, 7), 13);
    }

    // ---- what is read, promises 12 to 18 ----

    private static void toldOthers() {
        part("12: NONE for others");
        within("told(2, 0)", KeyTurnerBounds::busy, x -> x.told(2, 0), 0);
        within("told(2, 10)", KeyTurnerBounds::busy, x -> x.told(2, 10), 0);
        within("told(0, 11)", KeyTurnerBounds::busy, x -> x.told(0, 11), 3);
        within("told(2, 11), no TURN", KeyTurnerBounds::busy, x -> x.told(2, 11), NONE);
        within("told(2, 5), no TURN", KeyTurnerBounds::busy, x -> x.told(2, 5), 0);
        within("told(2, 8), no TURN", KeyTurnerBounds::busy, x -> x.told(2, 8), 0);
        for (int what : new int[] {-1, 12, 13, MIN, MAX}) {
            refused("told(0, " + what + ")", KeyTurnerBounds::busy, x -> x.told(0, what), NONE);
        }
        for (int s : new int[] {-1, 3, 12, MIN, MAX}) {
            for (int what = -1; what <= 12; what++) {
                int w = what;
                within("told(" + s + ", " + what + ")", KeyTurnerBounds::busy, x -> x.told(s, w), NONE);
            }
        }
    }

    private static void hasNoSuch() {
        part("13: no such");
        within("has(0, 0)", KeyTurnerBounds::ends, x -> x.has(0, 0), 0);
        within("has(9, 0)", KeyTurnerBounds::ends, x -> x.has(9, 0), 0);
        for (int who : new int[] {-1, 1, 8, 10, 16, 32, 41, -32, MIN, MAX}) {
            refused("has(" + who + ", 0)", KeyTurnerBounds::ends, x -> x.has(who, 0), NONE);
        }
        for (int s : new int[] {-1, 1, 2, 12, MIN, MAX}) {
            refused("has(0, " + s + ")", KeyTurnerBounds::ends, x -> x.has(0, s), NONE);
        }
    }

    private static void goodNoSuch() {
        part("14: no such CHECKER of it, SECRET");
        within("good(0, 0, 0)", KeyTurnerBounds::ends, x -> x.good(0, 0, 0), 1);
        within("good(5, 0, 1)", KeyTurnerBounds::ends, x -> x.good(5, 0, 1), 1);
        for (int who : new int[] {-1, 1, 4, 6, 10, 15, 32, 37, -32, MIN, MAX}) {
            refused("good(" + who + ", 0, 0)", KeyTurnerBounds::ends, x -> x.good(who, 0, 0), NONE);
        }
        for (int s : new int[] {-1, 2, 12, MIN, MAX}) {
            refused("good(0, " + s + ", 0)", KeyTurnerBounds::ends, x -> x.good(0, s, 0), NONE);
        }
        for (int v : new int[] {-1, 2, 32, MIN, MAX}) {
            within("good(0, 0, " + v + "), none so far", KeyTurnerBounds::ends, x -> x.good(0, 0, v), 0);
        }
        within("a CHECKER that is DOWN", x -> {
            ends(x);
            x.down(10, true);
        }, x -> x.good(0, 0, 0), 1);
    }

    private static void planWithout() {
        part("15: NONE without");
        for (int i : new int[] {-1, 0, 1, MIN, MAX}) {
            within("plan(" + i + ") of none", x -> { }, x -> x.plan(i), NONE);
        }
        within("plan(2)", KeyTurnerBounds::busy, x -> x.plan(2), 0);
        for (int i : new int[] {-1, 3, 12, MIN, MAX}) {
            refused("plan(" + i + ")", KeyTurnerBounds::busy, x -> x.plan(i), NONE);
        }
        for (int i = 0; i < 12; i++) {
            int k = i;
            within("plan(" + i + ") of twelve in a row", KeyTurnerBounds::chain, x -> x.plan(k), 11 - i);
        }
        within("plan(12)", KeyTurnerBounds::chain, x -> x.plan(12), NONE);
    }

    private static void planIs(String text, Counted x, int... want) {
        for (int i = 0; i < want.length; i++) {
            due(text + ": plan(" + i + ")", x.plan(i), want[i]);
        }
    }

    private static void planOfSeveralTheLowest() {
        part("15: the least, of several the lowest");
        Counted x = new Counted();
        x.secret(0, 0, 1, 10);
        x.secret(0, 0, 1, 10);
        x.tick(1);
        x.secret(0, 0, 1, 9);
        x.secret(0, 0, 1, 8);
        planIs("10, 10, 1 + 9, 1 + 8", x, 3, 0, 1, 2, NONE);
        x.needs(0, 2, true);
        planIs("0 NEEDS 2", x, 3, 1, 2, 0, NONE);
        x.needs(3, 0, true);
        planIs("3 NEEDS 0", x, 1, 2, 0, 3, NONE);
        x.turn(1);
        planIs("1 is made anew at 1", x, 2, 0, 3, 1, NONE);
        x.needs(2, 1, true);
        planIs("2 NEEDS 1", x, 1, 2, 0, 3, NONE);
    }

    private static void hangsOthers() {
        part("16: False for others");
        within("hangs(0, 11)", KeyTurnerBounds::chain, x -> bit(x.hangs(0, 11)), 1);
        within("hangs(0, 1)", KeyTurnerBounds::chain, x -> bit(x.hangs(0, 1)), 1);
        within("hangs(11, 0)", KeyTurnerBounds::chain, x -> bit(x.hangs(11, 0)), 0);
        for (int s = 0; s < 12; s++) {
            int k = s;
            within("hangs(" + s + ", " + s + ")", KeyTurnerBounds::chain, x -> bit(x.hangs(k, k)), 0);
        }
        for (int none : new int[] {-1, 12, 32, 33, MIN, MAX}) {
            refused("hangs(0, " + none + ")", KeyTurnerBounds::chain, x -> bit(x.hangs(0, none)), 0);
            refused("hangs(" + none + ", 11)", KeyTurnerBounds::chain, x -> bit(x.hangs(none, 11)), 0);
        }
        Run upwards = x -> {
            twelve(x);
            for (int i = 0; i < 11; i++) {
                x.needs((i + 6) % 12, (i + 7) % 12, true);
            }
        };
        for (int i = 0; i < 12; i++) {
            for (int k = 0; k < 12; k++) {
                int s = (i + 6) % 12;
                int o = (k + 6) % 12;
                within("hangs(" + s + ", " + o + ") of 6 .. 11, 0 .. 5 in a row", upwards,
                    x -> bit(x.hangs(s, o)), bit(i < k));
            }
        }
        within("hangs(0, 11), a link undone", x -> {
            chain(x);
            x.needs(10, 11, false);
        }, x -> bit(x.hangs(0, 11)), 0);
    }

    private static void turnedNoSuch() {
        part("17: no such TURN, what");
        within("turned(1, 0), the last", KeyTurnerBounds::busy, x -> x.turnedOrThrows(1, 0), 1);
        within("turned(0, 4), the last what", KeyTurnerBounds::busy, x -> x.turnedOrThrows(0, 4), 0);
        for (int i : new int[] {-1, 2, 499, 500, 512, MIN, MAX}) {
            refused("turned(" + i + ", 0)", KeyTurnerBounds::busy, x -> x.turnedOrThrows(i, 0), THROWS);
        }
        for (int what : new int[] {-1, 5, 6, MIN, MAX}) {
            refused("turned(0, " + what + ")", KeyTurnerBounds::busy, x -> x.turnedOrThrows(0, what), THROWS);
            refused("turned(2, " + what + ")", KeyTurnerBounds::busy, x -> x.turnedOrThrows(2, what), THROWS);
        }
    }

    private static void turnedWhatIsKept() {
        part("17: what is kept of a TURN");
        Counted x = new Counted();
        two(x);
        x.tick(3);
        x.turn(0);
        int[] going = {0, 1, 3, NONE, 0};
        for (int what = 0; what < 5; what++) {
            due("turned(0, " + what + ")", x.turnedOrThrows(0, what), going[what]);
        }
        x.tick(12);
        due("turned(0, 3), on its last TICK but one", x.turnedOrThrows(0, 3), NONE);
        x.tick(1);
        due("turned(0, 3)", x.turnedOrThrows(0, 3), 16);
        due("stolen(0), as it is over", x.stolen(0), 2);
        due("turned(0, 4), not told as it went on", x.turnedOrThrows(0, 4), 0);
        due("turned(1, 4)", x.turnedOrThrows(1, 4), 1);
        due("turned(0, 1)", x.turnedOrThrows(0, 1), 1);
        due("turned(1, 1)", x.turnedOrThrows(1, 1), 2);
    }

    private static void countOthers() {
        part("18: NONE for others");
        int[] want = {4, 3, 2, 2, 3, 2, 1, 0};
        for (int what = 0; what <= 7; what++) {
            int w = what;
            within("count(" + what + ")", KeyTurnerBounds::busy, x -> x.count(w), want[what]);
        }
        for (int what : new int[] {-1, 8, 9, MIN, MAX}) {
            refused("count(" + what + ")", KeyTurnerBounds::busy, x -> x.count(what), NONE);
        }
    }

    private static void countAboveLife() {
        part("18: AGE above LIFE");
        for (int life : new int[] {1, 50, 10000}) {
            Run atLife = x -> {
                x.secret(0, 0, 1, life);
                tickTo(x, life);
            };
            within("AGE is LIFE " + life, atLife, x -> x.count(7), 0);
            within("one more", x -> {
                atLife.on(x);
                x.tick(1);
            }, x -> x.count(7), 1);
        }
        Counted x = new Counted();
        for (int s = 0; s < 12; s++) {
            x.secret(1, 0, 1, s + 1);
        }
        x.tick(12);
        due("count(7) at 12", x.count(7), 11);
        x.tick(1);
        due("count(7) at 13", x.count(7), 12);
        x.turn(0);
        due("turned, but not GOOD yet", x.count(7), 12);
        x.tick(1);
        due("made at 13, NOW 14, LIFE 1", x.count(7), 11);
        x.tick(1);
        due("NOW 15", x.count(7), 12);
    }

    private static void readingChangesNothing() {
        part("12 to 18: what is read changes nothing");
        refused("all of it", KeyTurnerBounds::busy, x -> {
            for (int i = 0; i < 12; i++) {
                x.told(0, i);
                x.count(i);
                x.plan(i);
                x.has(i, 0);
                x.good(i, 0, 0);
                x.hangs(0, i);
                x.turnedOrThrows(0, i);
            }
            return 0;
        }, 0);
    }

    /** The class, with its calls counted: behind the 512th nothing is promised. */
    private static final class Counted {
        private final KeyTurner x = new KeyTurner();
        private int calls = 0;

        private KeyTurner next() {
            calls++;
            if (calls > MOST_CALLS) {
                throw new IllegalStateException(at + ": the test makes more than 512 calls");
            }
            return x;
        }

        int secret(int kind, int holders, int checkers, int life) {
            return next().secret(kind, holders, checkers, life);
        }

        boolean needs(int secret, int other, boolean is) {
            return next().needs(secret, other, is);
        }

        boolean delay(int who, int ticks) {
            return next().delay(who, ticks);
        }

        boolean quiet(int ticks, int last) {
            return next().quiet(ticks, last);
        }

        boolean down(int who, boolean is) {
            return next().down(who, is);
        }

        int turn(int secret) {
            return next().turn(secret);
        }

        int stolen(int secret) {
            return next().stolen(secret);
        }

        int tick(int n) {
            return next().tick(n);
        }

        int ask(int holder, int secret, int checker) {
            return next().ask(holder, secret, checker);
        }

        int stranger(int who, int secret, int checker, int version) {
            return next().stranger(who, secret, checker, version);
        }

        int told(int secret, int what) {
            return next().told(secret, what);
        }

        int has(int holder, int secret) {
            return next().has(holder, secret);
        }

        int good(int checker, int secret, int version) {
            return next().good(checker, secret, version);
        }

        int plan(int i) {
            return next().plan(i);
        }

        boolean hangs(int secret, int other) {
            return next().hangs(secret, other);
        }

        int turnedOrThrows(int i, int what) {
            try {
                return next().turned(i, what);
            } catch (NoSuchElementException e) {
                return THROWS;
            }
        }

        int count(int what) {
            return next().count(what);
        }
    }
}
