import java.util.ArrayList;
import java.util.List;

/**
 * A run of calls on a new object, each told as a text. It remembers its calls, so that they can be
 * made again: a call that is only tried, or that must be refused, is made on another object.
 */
final class Run {
    private final Check check;
    private final List<String> calls = new ArrayList<>();
    private final SpriteLines lines = new SpriteLines();
    /** The portrait behind the calls so far; null if none has been made since the latest call. */
    private String portrait;

    Run(Check check) {
        this.check = check;
    }

    /** One part that is filled, and so many sprites that show it at one place. */
    static Run stack(Check check, int sprites, int x, int y) {
        return new Run(check).parts(Scenes.FILLED).times(sprites,
                "addSprite(0, " + x + ", " + y + ")");
    }

    Run copy() {
        Run copy = new Run(check);
        for (String call : calls) {
            copy.answer(call);
        }
        return copy;
    }

    List<String> calls() {
        return new ArrayList<>(calls);
    }

    double answer(String call) {
        if (calls.size() >= Portrait.CALLS) {
            throw new IllegalStateException("more calls than an object is good for");
        }
        calls.add(call);
        portrait = null;
        return Call.of(call).answer(lines);
    }

    /** Makes a call, whose answer must be the one that is due. */
    Run due(String call, double want) {
        double got = answer(call);
        if (got == want) {
            check.due(call, got, want);
        } else {
            check.due("behind " + Call.told(calls.subList(0, calls.size() - 1)) + ": " + call, got,
                    want);
        }
        return this;
    }

    /** Makes calls that prepare what is tested: none of them may be refused. */
    Run with(String... some) {
        for (String call : some) {
            check.holds(call + " is taken", answer(call) >= 0);
        }
        return this;
    }

    Run times(int number, String call) {
        for (int i = 0; i < number; i++) {
            with(call);
        }
        return this;
    }

    /** Types a text in place of what is there. */
    Run text(String text) {
        with("clearText()");
        for (String call : Call.typing(text)) {
            with(call);
        }
        return this;
    }

    /** Adds parts and draws texts of pixels into them; the text is empty then. */
    Run parts(String... texts) {
        for (String text : texts) {
            int part = (int) answer("addPart()");
            if (!text.isEmpty()) {
                text(text).with("draw(" + part + ")");
            }
        }
        return with("clearText()");
    }

    /** Tries a call on another object: it must not be refused there. */
    Run taken(String call) {
        copy().with(call);
        return this;
    }

    /** Tries a call on another object: it must be refused with this error and change nothing. */
    Run refused(String call, int error) {
        if (portrait == null) {
            portrait = Portrait.of(calls);
        }
        Run other = copy().due(call, error);
        check.holds(call + " behind " + Call.told(calls) + " changes nothing",
                Portrait.of(other.calls).equals(portrait));
        return this;
    }

    /** Tries a call on another object, and another call behind it, which must answer this. */
    Run behind(String call, String question, double want) {
        copy().with(call).due(question, want);
        return this;
    }

    /**
     * A range that the document names, for the argument that is told by a "%": all in it is taken,
     * and what is next to its ends, and far away, is refused.
     */
    Run range(String call, int from, int to, int error) {
        for (int value = from; value <= to; value++) {
            // Of a long range only what is near to its ends.
            if (value < from + 32 || value > to - 32) {
                taken(filled(call, value));
            }
        }
        for (int value : new int[] {from - 1, from - 2, to + 1, to + 2, Integer.MIN_VALUE,
            Integer.MAX_VALUE, to + 256, from - 256, to + 65536}) {
            refused(filled(call, value), error);
        }
        return this;
    }

    /**
     * All ways to have right and wrong arguments for the "%" of a call. Each row of values begins
     * with a right one; the others are wrong with the error of this row. In all @return lines the
     * errors come in the order -1, -2, and so on, so the greatest one is due.
     */
    Run combinations(String call, int[][] values, int... errors) {
        combine(call, 0, values, errors, Integer.MIN_VALUE);
        return this;
    }

    private void combine(String call, int place, int[][] values, int[] errors, int due) {
        if (place == values.length) {
            if (due == Integer.MIN_VALUE) {
                taken(call);
            } else {
                refused(call, due);
            }
            return;
        }
        for (int i = 0; i < values[place].length; i++) {
            int next = i == 0 ? due : Math.max(due, errors[place]);
            combine(filled(call, values[place][i]), place + 1, values, errors, next);
        }
    }

    private static String filled(String call, int value) {
        return call.replaceFirst("%", Integer.toString(value));
    }

    /**
     * Tries an act on another object: it records the state before it, undo() brings this back, and
     * the text stays.
     */
    Run act(String call) {
        int states = (int) Call.of("count(12)").answer(Call.made(calls));
        int length = (int) Call.of("count(13)").answer(Call.made(calls));
        int then = Math.min(states + 1, 5);
        Run other = copy().with(call).due("count(12)", then).due("undo()", then - 1);
        check.holds(call + " behind " + Call.told(calls) + " is undone",
                Portrait.ofState(other.calls).equals(Portrait.ofState(calls)));
        other.due("count(13)", length);
        return this;
    }

    /** As act(), for a call that changes something that can be told. */
    Run change(String call) {
        check.holds(call + " behind " + Call.told(calls) + " changes something",
                !Portrait.ofState(copy().with(call).calls).equals(Portrait.ofState(calls)));
        return act(call);
    }

    /** The pixels of a row of a part must be these: "12.x53" without the "x". */
    Run row(int part, int row, String due) {
        for (int column = 0; column < due.length(); column++) {
            due("pixel(" + part + ", " + row + ", " + column + ")", pixel(due.charAt(column)));
        }
        return this;
    }

    /** The colors of a line from a column on must be these, with "." for 0 and digits. */
    Run colors(int line, int column, String due) {
        for (int i = 0; i < due.length(); i++) {
            due("color(" + line + ", " + (column + i) + ")", pixel(due.charAt(i)));
        }
        return this;
    }

    private static int pixel(char character) {
        return character == '.' ? 0 : character - '0';
    }

    /** The line must show these sprites, in the order of turns, and no more. */
    Run shows(int line, int... sprites) {
        for (int place = 0; place < sprites.length; place++) {
            due("shown(" + line + ", " + place + ")", sprites[place]);
        }
        due("shown(" + line + ", " + sprites.length + ")", Errors.NONE);
        return due("line(" + line + ", 1)", sprites.length);
    }
}
