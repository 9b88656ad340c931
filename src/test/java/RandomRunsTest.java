import java.lang.reflect.InvocationTargetException;
import java.lang.reflect.Method;
import java.util.ArrayList;
import java.util.List;
import java.util.Random;

/**
 * Runs of 512 calls, the same ones in each run of the test, on the class and on PlainSpriteLines:
 * each answer must be the same, and nothing may be thrown. A run has a bent of its own, so that
 * full sheets, full screens, long texts and sheets with parts alike all come about.
 */
public final class RandomRunsTest {
    private static final int RUNS = 400;
    private static final int CALLS = 512;
    private static final String[] TEXT_PIECES = {"1x8", "2x8", ".x8", "12.x6", ".x621", "3.x7", ".x73",
        "1.x62", "11111111", "/", "/", "/", "/", "/", "x", "1", ".", "9", "2x7.", "11111111x"};

    private final Random random;
    private final SpriteLines lines = new SpriteLines();
    private final PlainSpriteLines plain = new PlainSpriteLines();
    private final List<String> calls = new ArrayList<>();
    /** How likely, of 100, an argument may be out of range. */
    private final int wildness;
    /** How many sprites and parts the run soon comes to. */
    private final int crowd;
    private boolean same = true;

    private RandomRunsTest(int seed) {
        random = new Random(seed);
        int[] wild = {0, 2, 2, 10};
        wildness = wild[seed % wild.length];
        crowd = 1 + random.nextInt(24);
    }

    public static void main(String[] args) throws ReflectiveOperationException {
        Check check = new Check();
        for (int seed = 0; seed < RUNS; seed++) {
            RandomRunsTest run = new RandomRunsTest(seed);
            run.go();
            check.holds("run " + seed + " with the calls " + run.calls, run.same);
        }
        check.end("RandomRunsTest");
    }

    private void go() throws ReflectiveOperationException {
        for (int i = 0; i < crowd && same; i++) {
            both("addPart");
            corner();
            if (random.nextInt(4) > 0) {
                both("addSprite", part(), place(), place());
            }
        }
        while (calls.size() < CALLS && same) {
            if (random.nextInt(100) < 45) {
                step();
            } else {
                question();
            }
        }
    }

    private void step() throws ReflectiveOperationException {
        switch (random.nextInt(24)) {
            case 0: both("addPart"); break;
            case 1: case 2: case 3: corner(); break;
            case 4: both("setPixel", part(), within(8), within(8), within(4)); break;
            case 5: case 6: text(); both("draw", part()); break;
            case 7: both("clearText"); break;
            case 8: pack(); break;
            case 9: both("setColor", within(4), 1 + within(3), random.nextInt(3) * within(64)); break;
            case 10: both("addSprite", part(), place(), place()); break;
            case 11: case 12: both("move", sprite(), place(), place()); break;
            case 13: both("set", sprite(), 0, part()); break;
            case 14: both("set", sprite(), 1, within(4)); break;
            case 15: both("set", sprite(), 2, within(4)); break;
            case 16: both("set", sprite(), within(4), within(2)); break;
            case 17: both("swap", within(32), within(32), within(4), within(4)); break;
            case 18: both("setLimit", 1 + within(random.nextBoolean() ? 5 : 20)); break;
            case 19: both("setStride", within(20)); break;
            case 20: both("next", 1 + within(random.nextInt(5) == 0 ? 100000 : 9)); break;
            case 21: both("undo"); break;
            case 22: both("keep", within(2)); break;
            default: both("restore", within(2)); break;
        }
    }

    private void question() throws ReflectiveOperationException {
        switch (random.nextInt(14)) {
            case 0: both("pixel", part(), within(8), within(8)); break;
            case 1: both("share", part()); break;
            case 2: both("alike", part(), part()); break;
            case 3: case 4: both("color", line(), within(32)); break;
            case 5: case 6: both("sprite", sprite(), within(9)); break;
            case 7: case 8: both("line", line(), within(5)); break;
            case 9: both("weight", line()); break;
            case 10: both("shown", line(), within(7)); break;
            case 11: both("meet", sprite(), sprite()); break;
            case 12: both("shownIn", line(), sprite()); break;
            default: both("count", within(14)); break;
        }
    }

    /** Packs now and then alone, and mostly undoes it, so that the sheets have the time to fill. */
    private void pack() throws ReflectiveOperationException {
        if (random.nextInt(3) == 0) {
            both("pack", random.nextInt(3) == 0);
            both("count", 0);
            for (int i = 0; i < 4; i++) {
                int sprite = sprite();
                both("sprite", sprite, 0);
                both("sprite", sprite, 1);
            }
            if (random.nextInt(4) > 0) {
                both("undo");
            }
        }
    }

    /** A pixel in a corner: parts come to be alike by these. */
    private void corner() throws ReflectiveOperationException {
        both("setPixel", part(), 7 * random.nextInt(2), 7 * random.nextInt(2), random.nextInt(3));
    }

    private void text() throws ReflectiveOperationException {
        both("clearText");
        int rows = 1 + random.nextInt(random.nextInt(4) == 0 ? 16 : 4);
        for (int i = 0; i < rows; i++) {
            String piece = TEXT_PIECES[random.nextInt(i % 2 == 0 ? 9 : TEXT_PIECES.length)];
            if (i % 2 == 1 && random.nextInt(5) > 0) {
                piece = "/";
            }
            for (int at = 0; at < piece.length(); at++) {
                both("type", piece.charAt(at));
            }
        }
    }

    private int part() {
        return within(Math.max(1, plain.parts()));
    }

    private int sprite() {
        return within(Math.max(1, plain.sprites()));
    }

    private int place() {
        int range = random.nextBoolean() ? 39 : 12;
        return within(range) - 7;
    }

    private int line() {
        return within(random.nextBoolean() ? 32 : 8);
    }

    private int within(int values) {
        if (random.nextInt(100) < wildness) {
            int[] wild = {-1, -8, values, values + 1, 32, 64, Integer.MAX_VALUE, Integer.MIN_VALUE};
            return wild[random.nextInt(wild.length)];
        }
        return random.nextInt(values);
    }

    /** Makes a call of both objects, and compares what they answer. */
    private void both(String name, Object... arguments) throws ReflectiveOperationException {
        if (!same || calls.size() >= CALLS) {
            return;
        }
        Class<?>[] types = new Class<?>[arguments.length];
        StringBuilder call = new StringBuilder(name).append('(');
        for (int i = 0; i < arguments.length; i++) {
            types[i] = arguments[i] instanceof Integer ? int.class
                    : arguments[i] instanceof Character ? char.class : boolean.class;
            call.append(i == 0 ? "" : ", ").append(arguments[i]);
        }
        Object due = answer(plain, PlainSpriteLines.class.getMethod(name, types), arguments);
        Object got = answer(lines, SpriteLines.class.getMethod(name, types), arguments);
        same = got.equals(due);
        calls.add(call.append(") ").append(same ? "" : "due is " + due + ", answered ").append(got)
                .toString());
    }

    private static Object answer(Object object, Method method, Object[] arguments)
            throws IllegalAccessException {
        try {
            return method.invoke(object, arguments);
        } catch (InvocationTargetException thrown) {
            return thrown.getCause().toString();
        }
    }
}
