import java.lang.reflect.Method;
import java.util.ArrayList;
import java.util.List;

/** The sentences on an object as a whole: its calls, how it is at first, the errors. */
final class WholeSentences implements Errors {
    private static final int LEAST = Integer.MIN_VALUE;
    private static final int MOST = Integer.MAX_VALUE;

    private WholeSentences() {
    }

    @Holds(at = "What it is",
            words = "An object is used for at most 512 calls after it has been made")
    static void the512thCall(Check check) {
        Run run = new Run(check).with("addPart()", "addSprite(0, 3, 4)", "setPixel(0, 0, 0, 2)");
        run.times(507, "next(1)").due("count(8)", 507);
        run.copy().due("color(4, 3)", 2);
        run.copy().due("setPixel(0, 0, 0, 3)", 2);
        run.copy().due("addPart()", 1);
        run.copy().due("next(2)", 509);
        run.copy().due("undo()", 4);
        run.copy().due("move(1, 0, 0)", UNKNOWN);
        run.copy().due("restore(1)", NONE);
    }

    @Holds(at = "Promise 1", words = "Creates an empty sheet and an empty screen, in the frame 0.")
    static void newObject(Check check) {
        int[] counts = {0, 0, 0, 0, 0, 0, 0, 0, 0, 4, 0, 0, 0, 0};
        for (int what = 0; what < counts.length; what++) {
            new Run(check).due("count(" + what + ")", counts[what]);
        }
        for (int line = 0; line < 32; line++) {
            Run run = new Run(check).shows(line).colors(line, 0, "................................");
            run.due("line(" + line + ", 0)", 0).due("line(" + line + ", 2)", 0);
            run.due("line(" + line + ", 3)", NONE).due("line(" + line + ", 4)", NONE);
            run.due("weight(" + line + ")", 0).due("shownIn(" + line + ", 0)", UNKNOWN);
        }
        Run run = new Run(check).due("share(0)", 0).due("keep(0)", 0).due("clearText()", 0);
        for (String call : new String[] {"pixel(0, 0, 0)", "setPixel(0, 0, 0, 0)", "draw(0)",
            "addSprite(0, 0, 0)", "alike(0, 0)", "move(0, 0, 0)", "set(0, 3, 1)", "sprite(0, 0)",
            "meet(0, 1)", "meet(0, 0)"}) {
            new Run(check).refused(call, UNKNOWN);
        }
        for (String call : new String[] {"undo()", "restore(0)", "restore(1)", "pack(false)",
            "pack(true)"}) {
            new Run(check).refused(call, NONE);
        }
        run.due("setLimit(1)", 4).due("setStride(1)", 0).due("next(1)", 1).due("addPart()", 0);
        run.due("addSprite(0, 0, 0)", 0);
        // Another object knows nothing of it.
        new Run(check).due("count(0)", 0).due("count(8)", 0).due("count(9)", 4).due("count(12)", 0);
    }

    @Holds(at = "Terms", words = "Errors are reported by the constants below.")
    static void constants(Check check) {
        check.due("UNKNOWN", SpriteLines.UNKNOWN, -1);
        check.due("BAD_VALUE", SpriteLines.BAD_VALUE, -2);
        check.due("FULL", SpriteLines.FULL, -3);
        check.due("NOT_POSSIBLE", SpriteLines.NOT_POSSIBLE, -4);
        check.due("NONE", SpriteLines.NONE, -5);
    }

    @Holds(at = "Terms", words = "There is no such part, sprite, line, palette or snapshot.")
    static void unknown(Check check) {
        check.due("UNKNOWN", SpriteLines.UNKNOWN, -1);
        Run run = new Run(check).with("addPart()", "addSprite(0, 0, 0)", "addSprite(0, 0, 0)");
        for (int part : new int[] {-1, 1, LEAST, MOST}) {
            run.refused("pixel(" + part + ", 0, 0)", UNKNOWN);
            run.refused("addSprite(" + part + ", 0, 0)", UNKNOWN);
        }
        for (int sprite : new int[] {-1, 2, LEAST, MOST}) {
            run.refused("sprite(" + sprite + ", 0)", UNKNOWN);
            run.refused("meet(1, " + sprite + ")", UNKNOWN);
        }
        for (int line : new int[] {-1, 32, LEAST, MOST}) {
            run.refused("line(" + line + ", 0)", UNKNOWN);
            run.refused("swap(0, " + line + ", 0, 1)", UNKNOWN);
        }
        for (int palette : new int[] {-1, 4, LEAST, MOST}) {
            run.refused("setColor(" + palette + ", 1, 0)", UNKNOWN);
            run.refused("swap(0, 0, 1, " + palette + ")", UNKNOWN);
        }
        for (int slot : new int[] {-1, 2, LEAST, MOST}) {
            run.refused("keep(" + slot + ")", UNKNOWN);
            run.refused("restore(" + slot + ")", UNKNOWN);
        }
        // The palette of a sprite is the value of a property, and its part is one too.
        run.refused("set(0, 2, 4)", BAD_VALUE).refused("set(0, 0, 1)", BAD_VALUE);
    }

    @Holds(at = "Terms", words = "Another argument is out of range.")
    static void badValue(Check check) {
        check.due("BAD_VALUE", SpriteLines.BAD_VALUE, -2);
        Run run = new Run(check).with("addPart()", "addSprite(0, 0, 0)");
        for (String call : new String[] {"setPixel(0, 8, 0, 0)", "pixel(0, 0, -1)",
            "setColor(0, 0, 0)", "addSprite(0, 32, 0)", "move(0, 0, -8)", "set(0, 4, 0)",
            "swap(1, 0, 0, 0)", "setLimit(0)", "setStride(20)", "next(0)", "sprite(0, 9)",
            "line(0, 5)", "shown(0, -1)", "meet(0, 0)", "count(14)"}) {
            run.refused(call, BAD_VALUE);
        }
    }

    @Holds(at = "Terms", words = "There is no more room.")
    static void full(Check check) {
        check.due("FULL", SpriteLines.FULL, -3);
        new Run(check).times(23, "addPart()").taken("addPart()").with("addPart()")
                .refused("addPart()", FULL);
        new Run(check).with("addPart()").times(19, "addSprite(0, 0, 0)")
                .taken("addSprite(0, 0, 0)").with("addSprite(0, 0, 0)")
                .refused("addSprite(0, 0, 0)", FULL);
        new Run(check).times(59, "type('1')").taken("type('1')").with("type('1')")
                .refused("type('1')", FULL);
    }

    @Holds(at = "Terms", words = "This is not possible.")
    static void notPossible(Check check) {
        check.due("NOT_POSSIBLE", SpriteLines.NOT_POSSIBLE, -4);
        Run run = new Run(check).times(9, "next(100000)").with("next(99999)");
        run.refused("next(2)", NOT_POSSIBLE).taken("next(1)");
    }

    @Holds(at = "Terms", words = "There is no such thing; not an error.")
    static void none(Check check) {
        check.due("NONE", SpriteLines.NONE, -5);
        Run run = new Run(check).parts("1.x7", "2.x7").with("addSprite(0, 0, 0)",
                "addSprite(1, 0, 8)", "setLimit(1)");
        for (String call : new String[] {"pack(false)", "pack(true)", "restore(0)", "restore(1)",
            "alike(0, 1)", "line(0, 3)", "line(0, 4)", "shown(0, 1)", "shownIn(0, 1)"}) {
            run.refused(call, NONE);
        }
        new Run(check).refused("undo()", NONE);
    }

    @Holds(at = "Terms", words = "Where several errors can apply, the order of the @return line is"
            + " the order of the checks.")
    static void orderOfErrors(Check check) {
        Run run = new Run(check).parts("1.x7").with("addSprite(0, 0, 0)").text("1x9");
        for (String call : new String[] {"setPixel(1, 8, 8, 4)", "draw(1)", "setColor(4, 4, 64)",
            "addSprite(1, 32, 32)", "move(1, 32, 32)", "set(1, 4, 9)", "swap(5, 4, 0, 4)",
            "swap(5, -1, 0, 0)", "pixel(1, 8, 8)", "sprite(1, 9)", "line(32, 5)", "shown(32, -1)",
            "meet(1, 1)"}) {
            run.refused(call, UNKNOWN);
        }
        Run crowd = new Run(check).with("addPart()").times(20, "addSprite(0, 0, 0)");
        crowd.refused("addSprite(1, 32, 32)", UNKNOWN).refused("addSprite(0, 32, 32)", BAD_VALUE);
        crowd.refused("addSprite(1, 0, 0)", UNKNOWN).refused("addSprite(0, 31, 31)", FULL);
        Run late = new Run(check).times(10, "next(100000)");
        late.refused("next(0)", BAD_VALUE).refused("next(100001)", BAD_VALUE);
        late.refused("next(100000)", NOT_POSSIBLE);
        answersAsPlain(check, new Run(check));
        answersAsPlain(check, ordinary(check));
        answersAsPlain(check, full(new Run(check)));
    }

    /** All calls at and beyond all edges must answer as the second writing of the document does. */
    private static void answersAsPlain(Check check, Run run) {
        for (Method method : SpriteLines.class.getMethods()) {
            if (method.getDeclaringClass() == SpriteLines.class) {
                for (String call : callsAtEdges(method)) {
                    PlainSpriteLines plain = new PlainSpriteLines();
                    for (String before : run.calls()) {
                        Call.of(before).answer(plain);
                    }
                    double due = Call.of(call).answer(plain);
                    double got = Call.of(call).answer(Call.made(run.calls()));
                    check.due(got == due ? call : "behind " + Call.told(run.calls()) + ": " + call,
                            got, due);
                }
            }
        }
    }

    @Holds(at = "Terms", words = "NONE is returned only if no error applies.")
    static void noneBehindErrors(Check check) {
        Run run = new Run(check).parts("1.x7", "2.x7").with("addSprite(0, 0, 0)");
        run.refused("restore(2)", UNKNOWN).refused("restore(1)", NONE);
        run.refused("alike(0, 2)", UNKNOWN).refused("alike(2, 0)", UNKNOWN);
        run.refused("alike(0, 1)", NONE);
        run.refused("line(32, 3)", UNKNOWN).refused("line(-1, 4)", UNKNOWN);
        run.refused("line(9, 5)", BAD_VALUE).refused("line(9, 3)", NONE);
        run.refused("shown(32, 9)", UNKNOWN).refused("shown(9, -1)", BAD_VALUE);
        run.refused("shown(9, 9)", NONE);
        run.refused("shownIn(32, 0)", UNKNOWN).refused("shownIn(9, 1)", UNKNOWN);
        run.refused("shownIn(9, 0)", NONE);
    }

    @Holds(at = "Terms", words = "A call that reports an error or NONE changes nothing.")
    static void refusedCallsChangeNothing(Check check) {
        changesNothing(check, new Run(check));
        changesNothing(check, ordinary(check));
        changesNothing(check, full(new Run(check)));
    }

    /** Three parts, two of which are alike, some sprites, a text with a fault, one snapshot. */
    private static Run ordinary(Check check) {
        Run run = new Run(check).parts("12.x6/3.x7", ".x621/.x73", "1x8");
        run.with("addSprite(0, 0, 0)", "addSprite(1, 3, 3)", "addSprite(1, 4, 0)", "set(1, 1, 2)",
                "set(2, 3, 0)", "swap(2, 9, 3, 0)", "setColor(3, 2, 60)", "setLimit(1)", "keep(1)",
                "undo()", "next(11)", "setStride(3)");
        return run.text("1x8/3x9");
    }

    /** All that can be full: the sheet, the screen, the text, the history, the slots, the frames. */
    private static Run full(Run run) {
        run.times(24, "addPart()").times(20, "addSprite(23, 0, 0)").times(9, "next(100000)");
        for (int part = 0; part < 24; part++) {
            run.with("setPixel(" + part + ", " + part / 8 + ", " + part % 8 + ", 1)");
        }
        run.with("keep(0)", "next(99999)", "keep(1)", "next(1)", "swap(0, 31, 1, 2)");
        return run.times(60, "type('2')");
    }

    private static void changesNothing(Check check, Run run) {
        String before = Portrait.of(run.calls());
        for (Method method : SpriteLines.class.getMethods()) {
            if (method.getDeclaringClass() == SpriteLines.class) {
                List<String> refused = refused(run, method);
                for (int from = 0; from < refused.size(); from += 150) {
                    List<String> calls = run.calls();
                    calls.addAll(refused.subList(from, Math.min(from + 150, refused.size())));
                    check.holds("behind " + Call.told(run.calls()) + ": calls of "
                            + method.getName() + "(), " + from + " and so on, change nothing",
                            Portrait.of(calls).equals(before));
                }
            }
        }
    }

    /** Of the calls of a method, with arguments at and beyond all edges, those that are refused. */
    private static List<String> refused(Run run, Method method) {
        List<String> refused = new ArrayList<>();
        for (String call : callsAtEdges(method)) {
            // Each on an object of its own, as this one is good for 512 calls only.
            if (Call.of(call).answer(Call.made(run.calls())) < 0) {
                refused.add(call);
            }
        }
        return refused;
    }

    private static List<String> callsAtEdges(Method method) {
        List<String> starts = new ArrayList<>(List.of(method.getName() + "("));
        for (int i = 0; i < method.getParameterCount(); i++) {
            List<String> longer = new ArrayList<>();
            for (String start : starts) {
                for (String value : values(method.getParameterTypes()[i],
                            method.getParameterCount())) {
                    longer.add(start + (i == 0 ? "" : ", ") + value);
                }
            }
            starts = longer;
        }
        List<String> calls = new ArrayList<>();
        for (String start : starts) {
            calls.add(start + ")");
        }
        return calls;
    }

    /** Fewer values for the longer calls: these are many anyway. */
    private static String[] values(Class<?> type, int parameters) {
        if (type == boolean.class) {
            return new String[] {"false", "true"};
        }
        if (type == char.class) {
            return new String[] {"'1'", "'/'", "0", "65535"};
        }
        if (parameters > 3) {
            return new String[] {"-1", "0", "3", "4", "7", "8", "32"};
        }
        if (parameters > 2) {
            return new String[] {"-2147483648", "-8", "-7", "-1", "0", "3", "4", "24", "31", "32",
                "64", "2147483647"};
        }
        return new String[] {"-2147483648", "-8", "-7", "-1", "0", "1", "2", "3", "4", "5", "7", "8",
            "9", "13", "14", "19", "20", "21", "23", "24", "25", "31", "32", "63", "64", "99999",
            "100000", "100001", "2147483647"};
    }
}
