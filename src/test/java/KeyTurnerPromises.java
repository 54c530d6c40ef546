import java.util.NoSuchElementException;

/** For each promise: ordinary calls, the edges that the document names, and wrong inputs. */
public final class KeyTurnerPromises {
    private static final int NONE = KeyTurner.NONE;
    private static int wrong = 0;
    private static String at = "";

    public static void main(String[] args) {
        newObject();
        secret();
        needs();
        delay();
        delayCountsAsWritten();
        quiet();
        quietAndLastEndTheWait();
        lastIsHundredAtFirst();
        down();
        downReadersWait();
        turn();
        turnAndNeeds();
        turnOfTwo();
        turnOfOne();
        stolenBeginsTurn();
        stolenInStepOne();
        stolenInStepTwo();
        stolenInStepThree();
        stolenInStepFourAndOfOne();
        stolenAgainInHurriedStepTwo();
        stolenRefused();
        tick();
        lettersToAllSixteen();
        turnerDown();
        ask();
        stranger();
        toldPlain();
        toldLate();
        toldLockedOutAndLetters();
        toldAge();
        has();
        good();
        plan();
        hangs();
        turned();
        count();
        refusedChangesNothing();
        System.out.println(wrong == 0 ? "all promises hold" : wrong + " answers are not as due");
        if (wrong != 0) {
            System.exit(1);
        }
    }

    private static void part(String name) {
        at = name;
    }

    private static void due(String call, int got, int want) {
        if (got != want) {
            wrong++;
            System.out.println(at + ": " + call + " answered " + got + ", due is " + want);
        }
    }

    private static void due(String call, boolean got, boolean want) {
        due(call, got ? 1 : 0, want ? 1 : 0);
    }

    private static void noSuchTurn(KeyTurner x, int i, int what) {
        boolean thrown = false;
        try {
            x.turned(i, what);
        } catch (NoSuchElementException e) {
            thrown = true;
        }
        due("turned(" + i + ", " + what + ") throws", thrown, true);
    }

    /** One SECRET: kind TWO, HOLDERS 0 and 1, CHECKERS 0 and 1, LIFE 50. */
    private static KeyTurner withTwo() {
        KeyTurner x = new KeyTurner();
        x.secret(0, 3, 3, 50);
        return x;
    }

    private static KeyTurner withOne() {
        KeyTurner x = new KeyTurner();
        x.secret(1, 3, 3, 50);
        return x;
    }

    private static void newObject() {
        part("1 new object");
        KeyTurner x = new KeyTurner();
        for (int what = 0; what <= 7; what++) {
            due("count(" + what + ")", x.count(what), 0);
        }
        for (int who = 0; who <= 16; who++) {
            due("down(" + who + ", false)", x.down(who, false), false);
        }
        due("plan(0)", x.plan(0), NONE);
        due("told(0, 0)", x.told(0, 0), NONE);
        noSuchTurn(x, 0, 0);
        due("NONE", KeyTurner.NONE, -1);
    }

    private static void secret() {
        part("2 secret");
        KeyTurner x = new KeyTurner();
        int[][] wrongOnes = {
            {-1, 1, 1, 1}, {2, 1, 1, 1}, {0, -1, 1, 1}, {0, 1024, 1, 1}, {0, 1, 0, 1}, {0, 1, -1, 1},
            {0, 1, 64, 1}, {0, 1, 1, 0}, {0, 1, 1, -1}, {0, 1, 1, 10001},
            {0, Integer.MIN_VALUE, 1, 1}, {0, 1, Integer.MIN_VALUE, 1}, {0, 1, 1, Integer.MAX_VALUE},
        };
        for (int[] w : wrongOnes) {
            due("a wrong secret", x.secret(w[0], w[1], w[2], w[3]), NONE);
        }
        due("count(1)", x.count(1), 0);
        due("secret(0, 0, 1, 1)", x.secret(0, 0, 1, 1), 0);
        due("secret(1, 1023, 63, 10000)", x.secret(1, 1023, 63, 10000), 1);
        x.tick(7);
        for (int i = 2; i < 12; i++) {
            due("secret " + i, x.secret(0, 1, 32, 5), i);
        }
        due("the thirteenth", x.secret(0, 1, 1, 1), NONE);
        due("count(1)", x.count(1), 12);
        due("told(1, 1)", x.told(1, 1), 1023);
        due("told(1, 2)", x.told(1, 2), 63);
        due("told(1, 3)", x.told(1, 3), 10000);
        due("told(2, 6)", x.told(2, 6), 7);
        due("has(9, 1)", x.has(9, 1), 0);
        due("good(5, 1, 0)", x.good(5, 1, 0), 1);
        due("good(5, 1, 1)", x.good(5, 1, 1), 0);
    }

    private static void needs() {
        part("3 needs");
        KeyTurner x = new KeyTurner();
        for (int i = 0; i < 4; i++) {
            x.secret(0, 1, 1, 5);
        }
        due("needs(0, 4, true)", x.needs(0, 4, true), false);
        due("needs(4, 0, true)", x.needs(4, 0, true), false);
        due("needs(-1, 0, true)", x.needs(-1, 0, true), false);
        due("needs(0, -1, false)", x.needs(0, -1, false), false);
        due("needs(0, 0, true)", x.needs(0, 0, true), false);
        due("needs(0, 0, false)", x.needs(0, 0, false), false);
        due("needs(0, 1, false)", x.needs(0, 1, false), false);
        due("needs(0, 1, true)", x.needs(0, 1, true), true);
        due("needs(0, 1, true) again", x.needs(0, 1, true), false);
        due("needs(1, 0, true)", x.needs(1, 0, true), false);
        due("needs(1, 2, true)", x.needs(1, 2, true), true);
        due("needs(2, 0, true)", x.needs(2, 0, true), false);
        due("needs(2, 3, true)", x.needs(2, 3, true), true);
        due("needs(3, 0, true)", x.needs(3, 0, true), false);
        due("needs(0, 3, false)", x.needs(0, 3, false), false);
        due("needs(0, 3, true)", x.needs(0, 3, true), true);
        due("needs(1, 2, false)", x.needs(1, 2, false), true);
        due("needs(1, 2, false) again", x.needs(1, 2, false), false);
        due("needs(2, 0, true) now", x.needs(2, 0, true), true);
        due("hangs(2, 1)", x.hangs(2, 1), true);
    }

    private static void delay() {
        part("4 delay");
        KeyTurner x = withTwo();
        due("delay(-1, 1)", x.delay(-1, 1), false);
        due("delay(16, 1)", x.delay(16, 1), false);
        due("delay(0, -1)", x.delay(0, -1), false);
        due("delay(0, 21)", x.delay(0, 21), false);
        due("delay(0, 20)", x.delay(0, 20), true);
        due("delay(0, 20) again", x.delay(0, 20), true);
        due("delay(15, 0)", x.delay(15, 0), true);
        due("delay(10, 0)", x.delay(10, 0), true);
        due("delay(11, 3)", x.delay(11, 3), true);
        x.turn(0);
        x.tick(1);
        due("good(0, 0, 1)", x.good(0, 0, 1), 1);
        due("good(1, 0, 1)", x.good(1, 0, 1), 0);
        x.tick(1);
        due("good(1, 0, 1)", x.good(1, 0, 1), 0);
        x.tick(1);
        due("good(1, 0, 1)", x.good(1, 0, 1), 1);
        x.tick(19);
        due("has(0, 0)", x.has(0, 0), 0);
        due("has(1, 0)", x.has(1, 0), 1);
        x.tick(1);
        due("has(0, 0)", x.has(0, 0), 1);
        due("told(0, 5)", x.told(0, 5), 3);
    }

    private static void delayCountsAsWritten() {
        part("4 delay as it is written");
        KeyTurner x = withTwo();
        x.delay(10, 5);
        x.turn(0);
        x.delay(10, 1);
        x.tick(4);
        due("told(0, 10)", x.told(0, 10), 1);
        x.tick(1);
        due("told(0, 5)", x.told(0, 5), 2);
        due("told(0, 11)", x.told(0, 11), 5);
    }

    private static void quiet() {
        part("5 quiet");
        KeyTurner x = withTwo();
        due("quiet(-1, 0)", x.quiet(-1, 0), false);
        due("quiet(1001, 0)", x.quiet(1001, 0), false);
        due("quiet(0, -1)", x.quiet(0, -1), false);
        due("quiet(0, 10001)", x.quiet(0, 10001), false);
        x.turn(0);
        x.tick(11);
        due("told(0, 5) with QUIET 10", x.told(0, 5), 3);
        x.tick(1);
        due("told(0, 5) with QUIET 10", x.told(0, 5), 4);
        due("quiet(1000, 10000)", x.quiet(1000, 10000), true);
        due("quiet(1000, 10000) again", x.quiet(1000, 10000), true);
        due("quiet(0, 0)", x.quiet(0, 0), true);
    }

    private static void quietAndLastEndTheWait() {
        part("5 quiet and last");
        KeyTurner x = withTwo();
        x.quiet(4, 9);
        x.turn(0);
        x.tick(2);
        due("told(0, 11)", x.told(0, 11), 2);
        x.tick(3);
        due("an ASK with an old one", x.stranger(4, 0, 0, 0), 1);
        x.tick(3);
        due("told(0, 5) at 8", x.told(0, 5), 3);
        due("an ASK with the new one", x.ask(0, 0, 0), 1);
        due("an ASK with an old one", x.stranger(4, 0, 0, 0), 1);
        x.tick(2);
        due("told(0, 5) at 10", x.told(0, 5), 3);
        x.tick(1);
        due("told(0, 5) at 11, LAST", x.told(0, 5), 4);

        KeyTurner y = withTwo();
        y.turn(0);
        y.tick(2);
        y.ask(0, 0, 0);
        y.tick(5);
        due("an ASK that fails", y.stranger(4, 0, 1, 1), 1);
        y.down(10, true);
        due("an ASK that fails", y.stranger(4, 0, 0, 0), 0);
        y.quiet(6, 100);
        y.tick(1);
        due("QUIET as it is now", y.told(0, 5), 4);
        due("begun at 8", y.told(0, 11), 8);
    }

    private static void lastIsHundredAtFirst() {
        part("5 LAST is 100 at first");
        KeyTurner x = withTwo();
        x.turn(0);
        x.tick(2);
        for (int i = 0; i < 11; i++) {
            x.stranger(4, 0, 0, 0);
            x.tick(9);
        }
        due("told(0, 5) at 101", x.told(0, 5), 3);
        x.stranger(4, 0, 0, 0);
        x.tick(1);
        due("told(0, 5) at 102", x.told(0, 5), 4);
    }

    private static void down() {
        part("6 down");
        KeyTurner x = withTwo();
        due("down(-1, true)", x.down(-1, true), false);
        due("down(17, true)", x.down(17, true), false);
        for (int who = 0; who <= 16; who++) {
            due("down(" + who + ", false)", x.down(who, false), false);
            due("down(" + who + ", true)", x.down(who, true), true);
            due("down(" + who + ", true) again", x.down(who, true), false);
            due("down(" + who + ", false)", x.down(who, false), true);
        }
        due("turn(0)", x.turn(0), 1);
    }

    private static void downReadersWait() {
        part("6 letters wait");
        KeyTurner x = withTwo();
        x.down(11, true);
        x.turn(0);
        x.tick(50);
        due("told(0, 5)", x.told(0, 5), 1);
        due("told(0, 10)", x.told(0, 10), 1);
        due("count(4)", x.count(4), 1);
        x.down(11, false);
        due("told(0, 10) before a TICK", x.told(0, 10), 1);
        x.down(0, true);
        x.tick(1);
        due("told(0, 5)", x.told(0, 5), 2);
        due("told(0, 11)", x.told(0, 11), 51);
        x.tick(30);
        due("has(0, 0)", x.has(0, 0), 0);
        due("has(1, 0)", x.has(1, 0), 1);
        x.down(0, false);
        x.tick(1);
        due("has(0, 0)", x.has(0, 0), 1);
        due("told(0, 5)", x.told(0, 5), 3);
    }

    private static void turn() {
        part("7 turn");
        KeyTurner x = withTwo();
        due("turn(-1)", x.turn(-1), NONE);
        due("turn(1)", x.turn(1), NONE);
        x.down(16, true);
        due("turn(0), turner DOWN", x.turn(0), NONE);
        x.down(16, false);
        due("turn(0)", x.turn(0), 1);
        due("turn(0) again", x.turn(0), NONE);
        x.tick(13);
        due("told(0, 5)", x.told(0, 5), 0);
        due("turn(0)", x.turn(0), 2);
        due("told(0, 6)", x.told(0, 6), 13);
        due("count(2)", x.count(2), 2);
    }

    private static void turnAndNeeds() {
        part("7 turn and NEEDS");
        KeyTurner x = new KeyTurner();
        for (int i = 0; i < 5; i++) {
            x.secret(1, 0, 1, 5);
        }
        x.needs(0, 1, true);
        x.needs(1, 2, true);
        x.needs(3, 2, true);
        due("turn(2)", x.turn(2), 1);
        due("turn(0), 2 at a remove goes on", x.turn(0), NONE);
        due("turn(1), 2 goes on", x.turn(1), NONE);
        due("turn(3), 2 goes on", x.turn(3), NONE);
        due("turn(4), no kin", x.turn(4), 1);
        x.tick(1);
        due("turn(0)", x.turn(0), 1);
        due("turn(2), 0 goes on", x.turn(2), NONE);
        due("turn(1), 0 goes on", x.turn(1), NONE);
        due("turn(3), only akin by 2", x.turn(3), 1);
        due("stolen(2), whatever goes on", x.stolen(2), 2);
    }

    private static void turnOfTwo() {
        part("TURN of TWO");
        KeyTurner x = withTwo();
        x.quiet(3, 100);
        x.turn(0);
        due("step", x.told(0, 5), 1);
        due("letters", x.told(0, 10), 2);
        x.tick(1);
        due("step", x.told(0, 5), 2);
        due("letters", x.told(0, 10), 2);
        due("both good", x.good(1, 0, 0) + x.good(1, 0, 1), 2);
        due("has", x.has(0, 0), 0);
        x.tick(1);
        due("step", x.told(0, 5), 3);
        due("letters", x.told(0, 10), 0);
        due("has", x.has(1, 0), 1);
        x.tick(3);
        due("step", x.told(0, 5), 4);
        due("letters", x.told(0, 10), 2);
        due("old good still", x.good(0, 0, 0), 1);
        x.tick(1);
        due("step", x.told(0, 5), 0);
        due("old good", x.good(0, 0, 0), 0);
        due("new good", x.good(0, 0, 1), 1);
        due("over", x.turned(0, 3), 6);
    }

    private static void turnOfOne() {
        part("TURN of ONE");
        KeyTurner x = withOne();
        x.delay(11, 3);
        x.turn(0);
        due("step", x.told(0, 5), 5);
        x.tick(1);
        due("old at 0", x.good(0, 0, 0), 0);
        due("new at 0", x.good(0, 0, 1), 1);
        due("old at 1", x.good(1, 0, 0), 1);
        due("new at 1", x.good(1, 0, 1), 0);
        due("step", x.told(0, 5), 5);
        x.tick(2);
        due("step", x.told(0, 5), 2);
        x.tick(1);
        due("step", x.told(0, 5), 0);
        due("over", x.turned(0, 3), 4);

        KeyTurner y = new KeyTurner();
        y.secret(1, 0, 1, 9);
        y.turn(0);
        y.tick(1);
        due("no HOLDERS: over with STEP 5", y.turned(0, 3), 1);
    }

    private static void stolenBeginsTurn() {
        part("8 stolen begins a TURN");
        KeyTurner x = withTwo();
        due("stolen(0)", x.stolen(0), 1);
        due("step", x.told(0, 5), 1);
        x.tick(1);
        due("step", x.told(0, 5), 4);
        due("locked out", x.told(0, 9), 0);
        x.tick(1);
        due("step", x.told(0, 5), 2);
        due("locked out", x.told(0, 9), 3);
        due("ask(0, 0, 0)", x.ask(0, 0, 0), 0);
        x.tick(1);
        due("step", x.told(0, 5), 0);
        due("locked out", x.told(0, 9), 0);
        due("turned(0, 4)", x.turned(0, 4), 1);
        due("turn(0)", x.turn(0), 2);
        x.tick(2);
        due("the next goes by 1, 2, 3 again", x.told(0, 5), 3);
        due("turned(1, 4)", x.turned(1, 4), 0);

        KeyTurner y = withOne();
        due("stolen(0)", y.stolen(0), 1);
        due("step", y.told(0, 5), 5);
        y.tick(1);
        due("step", y.told(0, 5), 2);
        y.tick(1);
        due("step", y.told(0, 5), 0);
    }

    private static void stolenInStepOne() {
        part("8 stolen in STEP 1");
        KeyTurner x = withTwo();
        x.turn(0);
        due("stolen(0)", x.stolen(0), 1);
        due("step", x.told(0, 5), 1);
        due("letters", x.told(0, 10), 2);
        due("turned(0, 4)", x.turned(0, 4), 1);
        x.tick(1);
        due("step", x.told(0, 5), 4);
        due("stolen(0) again", x.stolen(0), 1);
        x.tick(1);
        due("step", x.told(0, 5), 2);
        x.tick(1);
        due("step", x.told(0, 5), 0);
        due("count(2)", x.count(2), 1);
    }

    private static void stolenInStepTwo() {
        part("8 stolen in STEP 2");
        KeyTurner x = withTwo();
        x.delay(1, 9);
        x.turn(0);
        x.tick(2);
        due("step", x.told(0, 5), 2);
        due("stolen(0)", x.stolen(0), 1);
        due("step", x.told(0, 5), 4);
        due("begun", x.told(0, 11), 2);
        due("letters of both STEPS", x.told(0, 10), 3);
        x.tick(1);
        due("step, a HOLDER's LETTER is not ANSWERED", x.told(0, 5), 4);
        due("old good", x.good(0, 0, 0), 0);
        due("locked out", x.told(0, 9), 2);
        x.tick(6);
        due("letters", x.told(0, 10), 1);
        x.tick(1);
        due("step", x.told(0, 5), 0);
        due("over", x.turned(0, 3), 10);
        due("locked out", x.told(0, 9), 0);
    }

    private static void stolenInStepThree() {
        part("8 stolen in STEP 3");
        KeyTurner x = withTwo();
        x.turn(0);
        x.tick(4);
        due("step", x.told(0, 5), 3);
        x.stranger(7, 0, 0, 0);
        due("late", x.told(0, 8), 128);
        due("stolen(0)", x.stolen(0), 1);
        due("step", x.told(0, 5), 4);
        due("late", x.told(0, 8), 0);
        due("begun", x.told(0, 11), 4);
        due("stolen(0) in STEP 4", x.stolen(0), 1);
        due("letters", x.told(0, 10), 2);
        x.tick(1);
        due("step", x.told(0, 5), 0);
        due("over", x.turned(0, 3), 5);
    }

    private static void stolenInStepFourAndOfOne() {
        part("8 stolen where all stays");
        KeyTurner x = withTwo();
        x.quiet(0, 0);
        x.turn(0);
        x.tick(2);
        due("step", x.told(0, 5), 4);
        due("stolen(0)", x.stolen(0), 1);
        due("letters", x.told(0, 10), 2);
        due("turned(0, 4)", x.turned(0, 4), 1);
        x.tick(1);
        due("step", x.told(0, 5), 0);

        KeyTurner y = withOne();
        y.turn(0);
        due("turned(0, 4)", y.turned(0, 4), 0);
        due("stolen(0)", y.stolen(0), 1);
        due("step", y.told(0, 5), 5);
        due("turned(0, 4)", y.turned(0, 4), 1);
        y.tick(1);
        due("stolen(0) in STEP 2 of ONE", y.stolen(0), 1);
        due("step", y.told(0, 5), 2);
        y.tick(1);
        due("step", y.told(0, 5), 0);
    }

    private static void stolenAgainInHurriedStepTwo() {
        part("8 stolen again in STEP 2 of 1, 4, 2");
        KeyTurner x = withTwo();
        x.delay(0, 7);
        x.stolen(0);
        x.tick(3);
        due("step", x.told(0, 5), 2);
        due("letters", x.told(0, 10), 1);
        due("stolen(0)", x.stolen(0), 1);
        due("step", x.told(0, 5), 4);
        due("letters", x.told(0, 10), 3);
        x.tick(5);
        due("letters", x.told(0, 10), 1);
        x.tick(1);
        due("step", x.told(0, 5), 0);
        due("over", x.turned(0, 3), 9);
        due("count(2)", x.count(2), 1);
    }

    private static void stolenRefused() {
        part("8 stolen refused");
        KeyTurner x = withTwo();
        due("stolen(-1)", x.stolen(-1), NONE);
        due("stolen(1)", x.stolen(1), NONE);
        x.turn(0);
        x.down(16, true);
        due("stolen(0), turner DOWN", x.stolen(0), NONE);
        due("turned(0, 4)", x.turned(0, 4), 0);
    }

    private static void tick() {
        part("9 tick");
        KeyTurner x = withTwo();
        due("tick(-1)", x.tick(-1), NONE);
        due("tick(2001)", x.tick(2001), NONE);
        due("tick(MAX)", x.tick(Integer.MAX_VALUE), NONE);
        due("tick(0)", x.tick(0), 0);
        x.turn(0);
        due("tick(0)", x.tick(0), 0);
        due("step", x.told(0, 5), 1);
        for (int i = 1; i <= 49; i++) {
            due("tick(2000)", x.tick(2000), 2000 * i);
        }
        due("tick(1999)", x.tick(1999), 99999);
        due("tick(2)", x.tick(2), NONE);
        due("count(0)", x.count(0), 99999);
        due("tick(1)", x.tick(1), 100000);
        due("tick(1)", x.tick(1), NONE);
        due("tick(0)", x.tick(0), 100000);
        due("turn(0)", x.turn(0), 2);
        due("age", x.told(0, 7), 100000);
        due("over", x.turned(0, 3), 13);
    }

    /** The most LETTERS that one TURN can have at once; many TICKS in one call are as good as one by one. */
    private static void lettersToAllSixteen() {
        part("9 LETTERS to all sixteen");
        KeyTurner x = new KeyTurner();
        x.secret(0, 1023, 63, 50);
        for (int who = 0; who <= 15; who++) {
            x.delay(who, who + 1);
        }
        x.turn(0);
        due("tick(16)", x.tick(16), 16);
        due("STEP", x.told(0, 5), 2);
        x.stolen(0);
        due("STEP behind STOLEN", x.told(0, 5), 4);
        due("LETTERS", x.told(0, 10), 16);
        due("count(4)", x.count(4), 16);
        due("tick(20)", x.tick(20), 36);
        due("STEP at the end", x.told(0, 5), 0);
        due("turned(0, 3)", x.turned(0, 3), 32);
    }

    private static void turnerDown() {
        part("9 turner DOWN");
        KeyTurner x = withTwo();
        x.turn(0);
        x.down(16, true);
        x.tick(9);
        due("letters are taken", x.told(0, 10), 0);
        due("step", x.told(0, 5), 1);
        due("both good", x.good(0, 0, 0) + x.good(0, 0, 1), 2);
        x.down(16, false);
        due("step before a TICK", x.told(0, 5), 1);
        x.tick(2);
        due("step", x.told(0, 5), 3);
        due("begun", x.told(0, 11), 11);
        x.down(16, true);
        x.tick(30);
        due("step", x.told(0, 5), 3);
        x.down(16, false);
        x.tick(1);
        due("step", x.told(0, 5), 4);
        due("begun", x.told(0, 11), 42);
    }

    private static void ask() {
        part("10 ask");
        KeyTurner x = new KeyTurner();
        due("ask(0, 0, 0)", x.ask(0, 0, 0), NONE);
        x.secret(0, 5, 34, 9);
        int[][] wrongOnes = {
            {1, 0, 1}, {-1, 0, 1}, {10, 0, 1}, {32, 0, 1}, {0, 0, 0}, {0, 0, -1}, {0, 0, 6}, {0, 0, 33},
            {0, 1, 1}, {0, -1, 1},
        };
        for (int[] w : wrongOnes) {
            due("a wrong ask " + w[0] + " " + w[1] + " " + w[2], x.ask(w[0], w[1], w[2]), NONE);
        }
        due("ask(0, 0, 1)", x.ask(0, 0, 1), 1);
        due("ask(2, 0, 5)", x.ask(2, 0, 5), 1);
        x.down(15, true);
        due("ask(2, 0, 5), CHECKER DOWN", x.ask(2, 0, 5), 0);
        due("ask(2, 0, 1)", x.ask(2, 0, 1), 1);
        x.down(2, true);
        due("ask(2, 0, 1), HOLDER DOWN", x.ask(2, 0, 1), 0);
        x.down(16, true);
        due("ask(0, 0, 1), turner DOWN", x.ask(0, 0, 1), 1);
        due("count(5)", x.count(5), 4);
        due("count(6)", x.count(6), 2);
    }

    private static void stranger() {
        part("11 stranger");
        KeyTurner x = new KeyTurner();
        due("stranger(3, 0, 0, 0)", x.stranger(3, 0, 0, 0), NONE);
        x.secret(0, 5, 34, 9);
        int[][] wrongOnes = {
            {0, 0, 1, 0}, {2, 0, 1, 0}, {-1, 0, 1, 0}, {10, 0, 1, 0}, {3, 0, 0, 0}, {3, 0, -1, 0}, {3, 0, 6, 0},
            {3, 1, 1, 0}, {3, -1, 1, 0}, {3, 0, 1, -1}, {3, 0, 1, 1}, {3, 0, 37, 0},
        };
        for (int[] w : wrongOnes) {
            due("a wrong stranger", x.stranger(w[0], w[1], w[2], w[3]), NONE);
        }
        x.down(3, true);
        due("stranger(3, 0, 1, 0), never DOWN", x.stranger(3, 0, 1, 0), 1);
        x.down(11, true);
        due("stranger(3, 0, 1, 0), CHECKER DOWN", x.stranger(3, 0, 1, 0), 0);
        due("stranger(9, 0, 5, 0)", x.stranger(9, 0, 5, 0), 1);
        x.turn(0);
        due("stranger(9, 0, 5, 1), not GOOD yet", x.stranger(9, 0, 5, 1), 0);
        x.tick(1);
        due("stranger(9, 0, 5, 1)", x.stranger(9, 0, 5, 1), 1);
        due("count(5)", x.count(5), 3);
        due("count(6)", x.count(6), 2);
    }

    private static void toldPlain() {
        part("12 told");
        KeyTurner x = new KeyTurner();
        x.tick(4);
        x.secret(1, 6, 9, 77);
        int[] want = {1, 6, 9, 77, 0, 0, 4, 0, 0, 0, 0, NONE, NONE};
        for (int what = 0; what < want.length; what++) {
            due("told(0, " + what + ")", x.told(0, what), want[what]);
        }
        due("told(0, -1)", x.told(0, -1), NONE);
        due("told(1, 0)", x.told(1, 0), NONE);
        due("told(-1, 0)", x.told(-1, 0), NONE);
        x.tick(2);
        x.turn(0);
        due("told(0, 4)", x.told(0, 4), 1);
        due("told(0, 5)", x.told(0, 5), 5);
        due("told(0, 6)", x.told(0, 6), 6);
        due("told(0, 7)", x.told(0, 7), 2);
        due("told(0, 10)", x.told(0, 10), 2);
        due("told(0, 11)", x.told(0, 11), 6);
    }

    private static void toldLate() {
        part("12 told LATE");
        KeyTurner x = withTwo();
        x.ask(0, 0, 0);
        due("no TURN", x.told(0, 8), 0);
        x.turn(0);
        due("before the STEP", x.told(0, 8), 0);
        x.ask(1, 0, 0);
        due("a HOLDER in STEP 1", x.told(0, 8), 2);
        x.tick(1);
        due("STEP 2 begins", x.told(0, 8), 0);
        x.stranger(9, 0, 0, 1);
        due("with the new one", x.told(0, 8), 0);
        x.stranger(9, 0, 0, 0);
        x.ask(0, 0, 1);
        due("both", x.told(0, 8), 513);
        x.down(10, true);
        x.ask(1, 0, 0);
        due("one that failed", x.told(0, 8), 513);
        x.tick(1);
        due("STEP 3 begins", x.told(0, 8), 0);
        x.stranger(8, 0, 1, 0);
        due("STEP 3", x.told(0, 8), 256);
        x.down(10, false);
        x.tick(10);
        x.stranger(3, 0, 0, 0);
        due("STEP 4", x.told(0, 8), 8);
        x.tick(1);
        due("no TURN", x.told(0, 8), 0);
    }

    private static void toldLockedOutAndLetters() {
        part("12 told LOCKED OUT, LETTERS");
        KeyTurner x = withOne();
        x.delay(11, 5);
        x.delay(1, 4);
        x.turn(0);
        due("letters", x.told(0, 10), 2);
        x.tick(1);
        due("locked out at one CHECKER", x.told(0, 9), 3);
        due("letters", x.told(0, 10), 1);
        x.tick(5);
        due("one has the new one", x.told(0, 9), 2);
        due("letters", x.told(0, 10), 1);
        x.tick(3);
        due("locked out", x.told(0, 9), 0);
    }

    private static void toldAge() {
        part("12 told AGE");
        KeyTurner x = withTwo();
        x.delay(11, 4);
        x.tick(20);
        due("age", x.told(0, 7), 20);
        x.stolen(0);
        due("made", x.told(0, 6), 20);
        x.tick(5);
        due("age, the old one is GOOD at one", x.told(0, 7), 25);
        x.tick(2);
        due("age", x.told(0, 7), 27);
        x.tick(1);
        due("age, the new one alone", x.told(0, 7), 8);
    }

    private static void has() {
        part("13 has");
        KeyTurner x = withTwo();
        due("has(2, 0)", x.has(2, 0), NONE);
        due("has(-1, 0)", x.has(-1, 0), NONE);
        due("has(10, 0)", x.has(10, 0), NONE);
        due("has(32, 0)", x.has(32, 0), NONE);
        due("has(0, 1)", x.has(0, 1), NONE);
        due("has(0, -1)", x.has(0, -1), NONE);
        x.turn(0);
        x.tick(1);
        due("has(0, 0)", x.has(0, 0), 0);
        x.tick(1);
        due("has(0, 0)", x.has(0, 0), 1);
    }

    private static void good() {
        part("14 good");
        KeyTurner x = withTwo();
        due("good(2, 0, 0)", x.good(2, 0, 0), NONE);
        due("good(-1, 0, 0)", x.good(-1, 0, 0), NONE);
        due("good(6, 0, 0)", x.good(6, 0, 0), NONE);
        due("good(32, 0, 0)", x.good(32, 0, 0), NONE);
        due("good(0, 1, 0)", x.good(0, 1, 0), NONE);
        due("good(0, -1, 0)", x.good(0, -1, 0), NONE);
        due("good(0, 0, -1)", x.good(0, 0, -1), 0);
        due("good(0, 0, 1)", x.good(0, 0, 1), 0);
        due("good(0, 0, MIN)", x.good(0, 0, Integer.MIN_VALUE), 0);
        x.turn(0);
        due("good(0, 0, 1)", x.good(0, 0, 1), 0);
        x.tick(13);
        due("good(0, 0, 0)", x.good(0, 0, 0), 0);
        due("good(0, 0, 1)", x.good(0, 0, 1), 1);
    }

    private static void planIs(KeyTurner x, int... want) {
        for (int i = 0; i < want.length; i++) {
            due("plan(" + i + ")", x.plan(i), want[i]);
        }
        due("plan behind the end", x.plan(want.length), NONE);
        due("plan(-1)", x.plan(-1), NONE);
    }

    private static void plan() {
        part("15 plan");
        KeyTurner x = new KeyTurner();
        planIs(x);
        x.secret(1, 0, 1, 30);
        x.secret(1, 0, 1, 20);
        x.secret(1, 0, 1, 30);
        x.tick(5);
        x.secret(1, 0, 1, 10);
        planIs(x, 3, 1, 0, 2);
        x.needs(3, 2, true);
        planIs(x, 1, 0, 2, 3);
        x.needs(1, 0, true);
        planIs(x, 0, 1, 2, 3);
        x.turn(1);
        planIs(x, 0, 1, 2, 3);
        x.tick(10);
        x.turn(1);
        planIs(x, 0, 2, 3, 1);
    }

    private static void hangs() {
        part("16 hangs");
        KeyTurner x = new KeyTurner();
        for (int i = 0; i < 12; i++) {
            x.secret(0, 1, 1, 5);
        }
        for (int i = 0; i < 11; i++) {
            x.needs(i + 1, i, true);
        }
        due("hangs(11, 0)", x.hangs(11, 0), true);
        due("hangs(0, 11)", x.hangs(0, 11), false);
        due("hangs(5, 5)", x.hangs(5, 5), false);
        due("hangs(12, 0)", x.hangs(12, 0), false);
        due("hangs(0, 12)", x.hangs(0, 12), false);
        due("hangs(-1, 0)", x.hangs(-1, 0), false);
        due("hangs(3, -1)", x.hangs(3, -1), false);
        due("needs(0, 11, true)", x.needs(0, 11, true), false);
        x.needs(6, 5, false);
        due("hangs(11, 0)", x.hangs(11, 0), false);
        due("hangs(11, 6)", x.hangs(11, 6), true);
    }

    private static void turned() {
        part("17 turned");
        KeyTurner x = withTwo();
        x.secret(1, 0, 1, 5);
        x.tick(3);
        x.turn(1);
        x.stolen(0);
        noSuchTurn(x, -1, 0);
        noSuchTurn(x, 2, 0);
        noSuchTurn(x, 0, -1);
        noSuchTurn(x, 0, 5);
        noSuchTurn(x, Integer.MAX_VALUE, 0);
        noSuchTurn(x, Integer.MIN_VALUE, 0);
        x.tick(1);
        int[] first = {1, 1, 3, 4, 0};
        int[] second = {0, 1, 3, NONE, 1};
        for (int what = 0; what < 5; what++) {
            due("turned(0, " + what + ")", x.turned(0, what), first[what]);
            due("turned(1, " + what + ")", x.turned(1, what), second[what]);
        }
        x.tick(2);
        due("turned(1, 3)", x.turned(1, 3), 6);
        due("stolen told behind the end", x.stolen(1), 2);
        due("turned(0, 4)", x.turned(0, 4), 0);
        due("turned(2, 1)", x.turned(2, 1), 2);
    }

    private static void count() {
        part("18 count");
        KeyTurner x = withTwo();
        x.secret(1, 1, 1, 4);
        due("count(-1)", x.count(-1), NONE);
        due("count(8)", x.count(8), NONE);
        x.turn(0);
        x.turn(1);
        due("count(1)", x.count(1), 2);
        due("count(2)", x.count(2), 2);
        due("count(3)", x.count(3), 2);
        due("count(4)", x.count(4), 3);
        x.down(0, true);
        x.tick(2);
        due("count(0)", x.count(0), 2);
        due("count(3)", x.count(3), 2);
        due("count(4)", x.count(4), 2);
        x.tick(2);
        due("count(7), AGE is LIFE", x.count(7), 0);
        x.tick(1);
        due("count(7)", x.count(7), 1);
        x.down(0, false);
        x.tick(1);
        due("count(3)", x.count(3), 1);
        due("count(4)", x.count(4), 0);
        x.tick(45);
        due("count(7)", x.count(7), 2);
        due("count(3)", x.count(3), 0);
    }

    private static void refusedChangesNothing() {
        part("refused");
        KeyTurner x = withTwo();
        x.turn(0);
        x.tick(1);
        String before = all(x);
        x.turn(0);
        x.secret(0, 1, 0, 1);
        x.needs(0, 0, true);
        x.delay(0, 21);
        x.quiet(5, 10001);
        x.quiet(1001, 5);
        x.down(0, false);
        x.tick(2001);
        x.ask(2, 0, 0);
        x.stranger(0, 0, 0, 0);
        x.stranger(5, 0, 0, 2);
        x.stolen(1);
        due("all as before", all(x).equals(before), true);
        x.tick(1);
        x.tick(9);
        due("QUIET as before", x.told(0, 5), 3);
        x.tick(1);
        due("QUIET as before", x.told(0, 5), 4);
    }

    private static String all(KeyTurner x) {
        StringBuilder text = new StringBuilder();
        for (int what = 0; what < 12; what++) {
            text.append(x.told(0, what)).append(' ').append(x.count(what)).append(' ');
        }
        for (int who = 0; who < 10; who++) {
            text.append(x.has(who, 0)).append(x.good(who, 0, 0)).append(x.good(who, 0, 1));
        }
        for (int what = 0; what < 5; what++) {
            text.append(x.turned(0, what)).append(' ');
        }
        return text.toString();
    }
}
