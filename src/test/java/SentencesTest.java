import java.io.IOException;
import java.lang.reflect.InvocationTargetException;
import java.lang.reflect.Method;

/**
 * Runs the tests of the single sentences, each of which says by Holds which one it holds, and looks
 * that these words stand in the document and that no sentence of the document is without a test.
 */
public final class SentencesTest {
    private static final Class<?>[] GROUPS = {WholeSentences.class, SheetSentences.class,
        TextSentences.class, PackSentences.class, ScreenSentences.class, LineSentences.class,
        HistorySentences.class, AskedSentences.class};

    private final Document document = new Document();
    private int tests;
    private int answers;
    private int failed;

    private SentencesTest() throws IOException {
    }

    public static void main(String[] args) throws IOException, IllegalAccessException {
        SentencesTest test = new SentencesTest();
        for (Class<?> group : GROUPS) {
            for (Method method : group.getDeclaredMethods()) {
                Holds holds = method.getAnnotation(Holds.class);
                if (holds != null) {
                    test.run(method, holds);
                }
            }
        }
        test.end();
    }

    private void run(Method method, Holds holds) throws IllegalAccessException {
        tests++;
        Check check = new Check();
        boolean passes = document.isHeld(holds.at(), holds.words());
        if (!passes) {
            System.out.println("  these words do not stand in the document:");
        }
        try {
            method.invoke(null, check);
            passes &= check.passes();
        } catch (InvocationTargetException thrown) {
            System.out.println("  " + thrown.getCause());
            passes = false;
        }
        answers += check.right();
        if (!passes) {
            failed++;
            System.out.println("  FAILED: " + holds.at() + ", \"" + holds.words() + "\", by "
                    + method.getDeclaringClass().getSimpleName() + "." + method.getName());
        }
    }

    private void end() {
        for (String sentence : document.notHeld()) {
            failed++;
            System.out.println("  no test holds the sentence: " + sentence);
        }
        System.out.println("  SentencesTest: " + tests + " tests of " + document.size()
                + " sentences, " + answers + " answers as due, " + failed + " failed");
        if (failed > 0) {
            System.exit(1);
        }
    }
}
