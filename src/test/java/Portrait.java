import java.util.ArrayList;
import java.util.List;

/**
 * All that can be told of an object behind a list of calls: two objects with the same portrait are
 * the same ones for their user. An object is good for 512 calls, so the calls are made on many new
 * ones, each of which answers some of the questions.
 */
final class Portrait {
    static final int CALLS = 512;
    /** The calls that a portrait makes before it begins to ask: undo() or restore(). */
    private static final int LEAD = 6;

    private final StringBuilder told = new StringBuilder();

    private Portrait() {
    }

    /** The state, the text, the states of the history and the snapshots. */
    static String of(List<String> calls) {
        Portrait portrait = new Portrait();
        portrait.tellState(calls);
        portrait.tellText(calls);
        int states = (int) Call.of("count(12)").answer(Call.made(calls));
        List<String> undone = new ArrayList<>(calls);
        for (int left = states - 1; left >= 0; left--) {
            undone.add("undo()");
            portrait.told.append("\nhistory ").append(left);
            portrait.tellState(undone);
        }
        for (int slot = 0; slot < 2; slot++) {
            List<String> restored = new ArrayList<>(calls);
            String restore = "restore(" + slot + ")";
            double answer = Call.of(restore).answer(Call.made(restored));
            portrait.told.append('\n').append(restore).append(' ').append(answer);
            if (answer >= 0) {
                restored.add(restore);
                portrait.tellState(restored);
            }
        }
        return portrait.told.toString();
    }

    /** The state alone, without the text, the history and the snapshots. */
    static String ofState(List<String> calls) {
        Portrait portrait = new Portrait();
        portrait.tellState(calls);
        return portrait.told.toString();
    }

    private void tellState(List<String> calls) {
        SpriteLines lines = Call.made(calls);
        List<String> questions = new ArrayList<>();
        add(questions, "count(%)", 12);
        for (int part = 0; part < lines.count(0); part++) {
            for (int row = 0; row < 8; row++) {
                add(questions, "pixel(" + part + ", " + row + ", %)", 8);
            }
        }
        for (int sprite = 0; sprite < lines.count(1); sprite++) {
            add(questions, "sprite(" + sprite + ", %)", 9);
        }
        for (int line = 0; line < 32; line++) {
            add(questions, "line(" + line + ", %)", 5);
        }
        ask(calls, questions);
        // The colors are told by what takes their place, so these are the last questions.
        List<String> colors = new ArrayList<>();
        for (int palette = 0; palette < 4; palette++) {
            for (int pixel = 1; pixel < 4; pixel++) {
                colors.add("setColor(" + palette + ", " + pixel + ", 0)");
            }
        }
        ask(calls, colors);
    }

    /** The text is told by its length, its fault, and the rows that it draws. */
    private void tellText(List<String> calls) {
        List<String> drawn = new ArrayList<>(calls);
        if (Call.made(calls).count(0) == 0) {
            drawn.add("addPart()");
        }
        List<String> questions = new ArrayList<>(List.of("count(13)", "draw(0)"));
        for (int row = 0; row < 8; row++) {
            add(questions, "pixel(0, " + row + ", %)", 8);
        }
        ask(drawn, questions);
    }

    private static void add(List<String> questions, String question, int values) {
        for (int value = 0; value < values; value++) {
            questions.add(question.replace("%", Integer.toString(value)));
        }
    }

    private void ask(List<String> calls, List<String> questions) {
        if (calls.size() + 100 + LEAD > CALLS) {
            throw new IllegalStateException("too many calls for a portrait: " + calls.size());
        }
        told.append('\n');
        SpriteLines lines = null;
        int made = CALLS;
        for (String question : questions) {
            if (made == CALLS) {
                lines = Call.made(calls);
                made = calls.size();
            }
            made++;
            told.append(' ').append(question).append('=').append(Call.of(question).answer(lines));
        }
    }
}
