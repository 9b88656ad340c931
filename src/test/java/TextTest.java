/** The promises 4 to 6: the text of pixels, its faults, and drawing. */
public final class TextTest {
    private static final Check CHECK = new Check();

    public static void main(String[] args) {
        type();
        clearText();
        notInTheState();
        draw();
        drawnRowsOnly();
        faults();
        tooLongRows();
        drawErrors();
        eachReadingBeginsAnew();
        CHECK.end("TextTest");
    }

    private static void type() {
        SpriteLines x = new SpriteLines();
        char[] any = {'a', ' ', '/', 'x', '9', (char) 0, (char) 255, (char) 65535};
        for (int length = 1; length <= 60; length++) {
            CHECK.due("type", x.type(any[length % any.length]), length);
            CHECK.due("count(13)", x.count(13), length);
        }
        CHECK.due("61st character", x.type('1'), SpriteLines.FULL);
        CHECK.due("length when full", x.count(13), 60);
        CHECK.due("clearText()", x.clearText(), 60);
        CHECK.due("type again", x.type('1'), 1);
    }

    private static void clearText() {
        SpriteLines x = Scenes.parts("");
        CHECK.due("clearText() of nothing", x.clearText(), 0);
        Scenes.type(x, "123");
        CHECK.due("clearText()", x.clearText(), 3);
        CHECK.due("count(13)", x.count(13), 0);
        CHECK.due("clearText() again", x.clearText(), 0);
        Scenes.type(x, "2x8");
        CHECK.due("nothing old is read", x.draw(0), 1);
        CHECK.due("pixel", x.pixel(0, 0, 0), 2);
    }

    /** Neither type nor clearText is an act, and no state holds the text. */
    private static void notInTheState() {
        SpriteLines x = Scenes.parts("");
        Scenes.type(x, "1x8");
        x.keep(0);
        CHECK.due("states", x.count(12), 1);
        Scenes.type(x, "/2x8");
        x.undo();
        CHECK.due("length after undo", x.count(13), 7);
        x.restore(0);
        CHECK.due("length after restore", x.count(13), 7);
        x.clearText();
        x.restore(0);
        CHECK.due("length after clearText and restore", x.count(13), 0);
        CHECK.due("states then", x.count(12), 2);
    }

    private static void draw() {
        drawn("1x8", 1, "11111111");
        drawn(".x8/3x8", 2, "......../33333333");
        drawn("12312312", 1, "12312312");
        drawn("1x2.x22x21x2", 1, "11..2211");
        drawn("1x7.", 1, "1111111.");
        drawn(".1x7", 1, ".1111111");
        drawn("1x22x33x3", 1, "11222333");
        drawn("..x2..x22.", 1, "......2.");
        drawn("1x8/2x8/3x8/.x8/1x8/2x8/3x8/1.x7", 8,
                "11111111/22222222/33333333/......../11111111/22222222/33333333/1.......");
        for (int times = 2; times < 8; times++) {
            StringBuilder due = new StringBuilder();
            for (int i = 0; i < 8; i++) {
                due.append(i < times ? '2' : '.');
            }
            String rest = times == 7 ? "." : ".x" + (8 - times);
            if (times == 6) {
                rest = "..";
            }
            drawn("2x" + times + rest, 1, due.toString());
        }
    }

    /** The text is drawn over a blank part: the due rows are the first ones then. */
    private static void drawn(String text, int rows, String due) {
        SpriteLines x = Scenes.parts("");
        CHECK.due("draw of " + text, Scenes.draw(x, 0, text), rows);
        StringBuilder all = new StringBuilder(due);
        for (int row = rows; row < 8; row++) {
            all.append("/........");
        }
        CHECK.holds("rows of " + text + " are " + Scenes.rows(x, 0),
                Scenes.rows(x, 0).equals(all.toString()));
        CHECK.due("the text stays", x.count(13), text.length());
        CHECK.due("draw again", x.draw(0), rows);
        CHECK.due("states", x.count(12), 3);
        x.undo();
        x.undo();
        CHECK.due("undone", x.share(0), 0);
    }

    private static void drawnRowsOnly() {
        String full = "33333333/33333333/33333333/33333333/33333333/33333333/33333333/33333333";
        String text = "12.12.12";
        String rows = text;
        for (int n = 1; n <= 6; n++) {
            SpriteLines x = Scenes.parts("3x8/3x8/3x8/3x8/3x8/3x8/3x8/3x8", "");
            CHECK.due("draw of " + n + " rows", Scenes.draw(x, 0, rows), n);
            String due = rows + full.substring(rows.length());
            CHECK.holds(n + " rows over a full part", Scenes.rows(x, 0).equals(due));
            CHECK.due("another part stays", x.share(1), 0);
            rows = rows + "/" + text;
        }
        SpriteLines x = Scenes.parts("3x8/3x8/3x8/3x8/3x8/3x8/3x8/3x8");
        CHECK.due("draw of 8 rows", Scenes.draw(x, 0, "1.x7/.x8/.x8/.x8/.x8/.x8/.x8/.x72"), 8);
        CHECK.due("nothing else stays", x.share(0), 2 / 64.0);
    }

    private static void faults() {
        fault("", 0);
        fault("1", 1);
        fault("1234", 3);
        fault("0", 0);
        fault("4", 0);
        fault("X", 0);
        fault("x", 0);
        fault("/", 0);
        fault(" 1x8", 0);
        fault("1x8 ", 3);
        fault("1x8/", 4);
        fault("1x8//", 4);
        fault("1x8/1", 5);
        fault("1x8/x", 4);
        fault("1x7/", 3);
        fault("1x7", 3);
        fault("1x", 2);
        fault("1x.", 2);
        fault("1x/", 2);
        fault("1xx", 2);
        fault("1x0", 2);
        fault("1x1", 2);
        fault("1x9", 2);
        fault("1x2x2", 3);
        fault("1x8x", 3);
        fault("1x8/1x8x", 7);
        fault("1x4a", 3);
        fault("" + (char) 305 + "x8", 0);
        fault("1x" + (char) 0x232, 2);
    }

    private static void tooLongRows() {
        fault("1x81", 3);
        fault("111111111", 8);
        fault("1x7..", 4);
        fault(".1x8", 3);
        fault("11x8", 3);
        fault("111x7", 4);
        fault("1111111x3", 8);
        fault("1x42x5", 5);
        // An "x" is allowed behind the eighth pixel, but no digit behind it.
        fault("11111111x", 9);
        fault("11111111x2", 9);
        fault("11111111x/", 9);
        fault("11111111x1", 9);
        fault("1x8/11111111x8", 13);
        String eight = "1x8/1x8/1x8/1x8/1x8/1x8/1x8/1x8";
        fault(eight + "/", 31);
        fault(eight + "/1x8", 31);
        fault(eight + "1", 31);
        fault(eight + "x", 31);
        fault(eight.substring(0, 28), 28);
        fault(eight.substring(0, 30), 30);
        StringBuilder sixty = new StringBuilder();
        for (int i = 0; i < 6; i++) {
            sixty.append("........./".substring(1));
        }
        fault(sixty + "......", 60);
        fault("1x" + "2".repeat(58), 9);
    }

    private static void fault(String text, int fault) {
        SpriteLines x = Scenes.parts("123.x5");
        x.setPixel(0, 0, 0, 3);
        x.setPixel(0, 7, 7, 2);
        int states = x.count(12);
        CHECK.due("draw of \"" + text + "\"", Scenes.draw(x, 0, text), -100 - fault);
        CHECK.due("states", x.count(12), states);
        CHECK.due("share", x.share(0), 4 / 64.0);
        CHECK.due("pixel", x.pixel(0, 0, 0), 3);
        CHECK.due("length", x.count(13), text.length());
    }

    private static void drawErrors() {
        SpriteLines x = Scenes.parts("");
        CHECK.due("UNKNOWN before the fault", x.draw(1), SpriteLines.UNKNOWN);
        CHECK.due("the fault", x.draw(0), -100);
        Scenes.type(x, "1x8");
        CHECK.due("draw(1)", x.draw(1), SpriteLines.UNKNOWN);
        CHECK.due("draw(-1)", x.draw(-1), SpriteLines.UNKNOWN);
        CHECK.due("draw(24)", x.draw(24), SpriteLines.UNKNOWN);
        CHECK.due("states", x.count(12), 1);
        CHECK.due("draw(0)", x.draw(0), 1);
        CHECK.due("states then", x.count(12), 2);
        x.undo();
        CHECK.due("undone", x.share(0), 0);
    }

    /** What a text ended with means nothing for the next one. */
    private static void eachReadingBeginsAnew() {
        SpriteLines x = Scenes.parts("");
        CHECK.due("ends with a pixel", Scenes.draw(x, 0, "11111111"), 1);
        CHECK.due("an x at the beginning", Scenes.draw(x, 0, "x2111111"), -100);
        CHECK.due("ends with an x", Scenes.draw(x, 0, "1x"), -102);
        CHECK.due("a row", Scenes.draw(x, 0, "2x8"), 1);
        CHECK.due("ends in the second row", Scenes.draw(x, 0, "2x8/33"), -106);
        CHECK.due("a row", Scenes.draw(x, 0, ".x8"), 1);
        CHECK.due("drawn last", x.share(0), 0);
    }
}
