import java.lang.reflect.Constructor;
import java.lang.reflect.Field;
import java.lang.reflect.Method;
import java.lang.reflect.Modifier;
import java.util.Arrays;
import java.util.NoSuchElementException;
import java.util.Random;
import java.util.TreeSet;

/** The class has the document's face and no more; wild arguments never make the machine throw. */
public final class KeyTurnerFace {
    private static final String[] FACE = {
        "boolean delay(int,int)", "boolean down(int,boolean)", "boolean hangs(int,int)",
        "boolean needs(int,int,boolean)", "boolean quiet(int,int)", "int ask(int,int,int)",
        "int count(int)", "int good(int,int,int)", "int has(int,int)", "int plan(int)",
        "int secret(int,int,int,int)", "int stolen(int)", "int stranger(int,int,int,int)",
        "int tick(int)", "int told(int,int)", "int turn(int)", "int turned(int,int)",
    };
    private static final int[] WILD = {
        Integer.MIN_VALUE, Integer.MIN_VALUE + 1, -65536, -33, -32, -17, -2, -1, 16, 17, 31, 32, 33, 63, 64, 65,
        499, 500, 501, 511, 512, 1000, 1001, 1023, 1024, 2000, 2001, 10000, 10001, 65536, 100000, 100001,
        Integer.MAX_VALUE - 1, Integer.MAX_VALUE,
    };
    private static int wrong = 0;

    public static void main(String[] args) {
        face();
        for (int seed = 0; seed < 300; seed++) {
            wildRun(new Random(seed));
        }
        manyTurns();
        System.out.println(wrong == 0 ? "the face is as due" : wrong + " things are not as due");
        if (wrong != 0) {
            System.exit(1);
        }
    }

    private static void check(String what, boolean holds) {
        if (!holds) {
            wrong++;
            System.out.println("wrong: " + what);
        }
    }

    private static void face() {
        Class<KeyTurner> type = KeyTurner.class;
        check("public final class", Modifier.isPublic(type.getModifiers()) && Modifier.isFinal(type.getModifiers()));
        TreeSet<String> names = new TreeSet<>();
        TreeSet<String> publicNames = new TreeSet<>();
        for (Method m : type.getDeclaredMethods()) {
            if (!Modifier.isPrivate(m.getModifiers())) {
                names.add(signature(m));
                publicNames.add(m.getName());
                check("public " + m, Modifier.isPublic(m.getModifiers()) && !Modifier.isStatic(m.getModifiers()));
            }
        }
        check("methods " + names, names.equals(new TreeSet<>(Arrays.asList(FACE))));
        for (Method m : type.getDeclaredMethods()) {
            check("a private method with a public name " + m,
                !Modifier.isPrivate(m.getModifiers()) || !publicNames.contains(m.getName()));
        }
        for (Field f : type.getDeclaredFields()) {
            check("field " + f, Modifier.isPrivate(f.getModifiers()) || f.getName().equals("NONE"));
            check("static field " + f, !Modifier.isStatic(f.getModifiers()) || Modifier.isFinal(f.getModifiers()));
        }
        Constructor<?>[] made = type.getDeclaredConstructors();
        check("constructors", made.length == 1 && Modifier.isPublic(made[0].getModifiers())
            && made[0].getParameterCount() == 0);
        for (Class<?> inner : type.getDeclaredClasses()) {
            check("class inside " + inner, Modifier.isStatic(inner.getModifiers())
                && !Modifier.isPublic(inner.getModifiers()) && !Modifier.isProtected(inner.getModifiers()));
        }
    }

    private static String signature(Method m) {
        StringBuilder text = new StringBuilder();
        text.append(m.getReturnType().getName()).append(' ').append(m.getName()).append('(');
        for (int i = 0; i < m.getParameterCount(); i++) {
            text.append(i == 0 ? "" : ",").append(m.getParameterTypes()[i].getName());
        }
        return text.append(')').toString();
    }

    private static int wild(Random r) {
        return r.nextInt(3) == 0 ? WILD[r.nextInt(WILD.length)] : r.nextInt(18) - 1;
    }

    /** Longer than the document's 512 calls: what is answered then is free, but nothing may throw. */
    private static void wildRun(Random r) {
        KeyTurner x = new KeyTurner();
        for (int i = 0; i < 1500; i++) {
            int a = wild(r);
            int b = wild(r);
            int c = wild(r);
            int d = wild(r);
            try {
                wildCall(x, r, a, b, c, d);
            } catch (NoSuchElementException e) {
                check("only turned() throws", false);
            }
        }
    }

    private static void wildCall(KeyTurner x, Random r, int a, int b, int c, int d) {
        switch (r.nextInt(17)) {
            case 0: x.secret(r.nextInt(2), a, b, c); break;
            case 1: x.needs(a, b, r.nextBoolean()); break;
            case 2: x.delay(a, b); break;
            case 3: x.quiet(a, b); break;
            case 4: x.down(a, r.nextInt(3) == 0); break;
            case 5: x.turn(a); break;
            case 6: x.stolen(a); break;
            case 7: x.tick(a); break;
            case 8: x.ask(a, b, c); break;
            case 9: x.stranger(a, b, c, d); break;
            case 10: x.told(a, b); break;
            case 11: x.has(a, b); break;
            case 12: x.good(a, b, c); break;
            case 13: x.plan(a); break;
            case 14: x.hangs(a, b); break;
            case 15: turnedThrowsOnlyItsOwn(x, a, b); break;
            default: x.count(a); break;
        }
    }

    private static void turnedThrowsOnlyItsOwn(KeyTurner x, int i, int what) {
        boolean is = i >= 0 && i < Math.min(500, x.count(2)) && what >= 0 && what <= 4;
        boolean thrown = false;
        try {
            x.turned(i, what);
        } catch (NoSuchElementException e) {
            thrown = true;
        }
        check("turned(" + i + ", " + what + ")", thrown != is);
    }

    private static void manyTurns() {
        KeyTurner x = new KeyTurner();
        for (int s = 0; s < 12; s++) {
            x.secret(1, 0, 1, 1);
        }
        for (int i = 0; i < 600; i++) {
            x.stolen(i % 12);
            if (i % 12 == 11) {
                x.tick(1);
            }
        }
        check("600 TURNS begun", x.count(2) == 600);
        check("TURN 499", x.turned(499, 0) == 499 % 12 && x.turned(499, 3) == 42);
        turnedThrowsOnlyItsOwn(x, 499, 4);
        turnedThrowsOnlyItsOwn(x, 500, 0);
    }
}
