/** The sentences on texts of pixels: promises 4 to 6. */
final class TextSentences implements Errors {
    private static final String EIGHT_ROWS = "1x8/2x8/3x8/.x8/1x8/2x8/3x8/1.x7";

    private TextSentences() {
    }

    // ---- Terms: Pixel texts

    @Holds(at = "Terms", words = "There is a text of at most 60 characters, empty at first.")
    static void atMost60Characters(Check check) {
        Run run = new Run(check).due("count(13)", 0).due("clearText()", 0);
        new Run(check).with("addPart()").refused("draw(0)", -100);
        for (int length = 1; length <= 60; length++) {
            run.due("type('1')", length).due("count(13)", length);
        }
        run.refused("type('1')", FULL).refused("type('/')", FULL).due("count(13)", 60);
        run.due("clearText()", 60).due("count(13)", 0).due("type('1')", 1);
    }

    @Holds(at = "Terms", words = "There is a text of at most 60 characters")
    static void allOf60CharactersAreRead(Check check) {
        String row = "11x21x21x2./";
        String sixty = row + row + row + row + "1.1.1.1./2x8";
        check.due("length of the text", sixty.length(), 60);
        Run run = new Run(check).with("addPart()").text(sixty).due("draw(0)", 6);
        run.row(0, 3, "1111111.").row(0, 4, "1.1.1.1.").row(0, 5, "22222222");
        new Run(check).with("addPart()").text(sixty.substring(0, 59) + "9").refused("draw(0)", -159);
        new Run(check).with("addPart()").text(sixty.substring(0, 59)).refused("draw(0)", -159);
        new Run(check).with("addPart()").text(sixty.substring(0, 57) + "222").refused("draw(0)",
                -160);
        // The 61st character is not there to be read.
        Run more = new Run(check).with("addPart()").text(sixty).due("type('2')", FULL);
        more.due("draw(0)", 6);
    }

    @Holds(at = "Terms", words = "It describes rows of pixels from the row 0 of a part on, at most 8"
            + " rows, separated by \"/\".")
    static void rowsFromRow0(Check check) {
        String rows = "";
        for (int number = 1; number <= 8; number++) {
            rows = rows + (number == 1 ? "" : "/") + (number % 3 + 1) + "x8";
            Run run = new Run(check).with("addPart()").text(rows).due("draw(0)", number);
            for (int row = 0; row < 8; row++) {
                char pixel = row < number ? (char) ('1' + (row + 1) % 3) : '.';
                run.row(0, row, ("" + pixel).repeat(8));
            }
        }
        fault(check, rows + "/", 31);
        fault(check, rows + "/1x8", 31);
        fault(check, "1x8 2x8", 3);
        fault(check, "1x82x8", 3);
        fault(check, "1x8//2x8", 4);
        fault(check, "/1x8", 0);
    }

    @Holds(at = "Terms", words = "A row is a sequence of items that give 8 pixels together")
    static void eightPixelsTogether(Check check) {
        drawn(check, "12312312", "12312312");
        drawn(check, "1x8", "11111111");
        drawn(check, "1x7.", "1111111.");
        drawn(check, ".1x7", ".1111111");
        drawn(check, "1x22x3.x3", "11222...");
        drawn(check, "1x42x4", "11112222");
        drawn(check, "11x21x21x2.", "1111111.");
        fault(check, "1231231", 7);
        fault(check, "123123123", 8);
        fault(check, "1x42x3", 6);
        fault(check, "1x42x5", 5);
    }

    @Holds(at = "Terms", words = "a pixel is \".\" (0) or a digit from 1 to 3")
    static void signsOfPixels(Check check) {
        drawn(check, "...123..", "...123..");
        for (int sign = 0; sign < 256; sign++) {
            Run run = new Run(check).with("addPart()", "type(" + sign + ")");
            int pixel = ".123".indexOf((char) sign);
            if (pixel < 0) {
                run.due("draw(0)", -100);
            } else {
                run.with("type('x')", "type('8')").due("draw(0)", 1).due("pixel(0, 0, 7)", pixel);
            }
        }
        fault(check, "0x8", 0);
        fault(check, "4x8", 0);
        fault(check, "1x7/", 3);
        fault(check, "1x70", 3);
        fault(check, "1x74", 3);
        // Signs with the same lowest bits as "1" and ".".
        fault(check, (char) (256 + '1') + "x8", 0);
        fault(check, (char) (65280 + '.') + "x8", 0);
    }

    @Holds(at = "Terms", words = "and can be followed by \"x\" and a digit from 2 to 8 (how often it"
            + " comes")
    static void howOftenItComes(Check check) {
        for (int times = 2; times <= 8; times++) {
            String due = "3".repeat(times) + ".".repeat(8 - times);
            drawn(check, "3x" + times + ".".repeat(8 - times), due);
            String other = ".".repeat(8 - times) + "2".repeat(times);
            drawn(check, ".".repeat(8 - times) + "2x" + times, other);
            drawn(check, ".x" + times + "1".repeat(8 - times), due.replace('.', '1')
                    .replace('3', '.'));
        }
        for (int sign = 0; sign < 256; sign++) {
            Run run = new Run(check).with("addPart()", "type('1')", "type('x')");
            run.with("type(" + sign + ")").with("type('1')");
            boolean allowed = sign >= '2' && sign <= '8';
            int fault = !allowed ? 2 : sign == '8' ? 3 : sign == '7' ? -1 : 4;
            run.due("draw(0)", fault < 0 ? 1 : -100 - fault);
        }
        fault(check, "1x0", 2);
        fault(check, "1x1", 2);
        fault(check, "1x9", 2);
        fault(check, "1x10", 2);
        fault(check, "1xx2", 2);
        fault(check, "1x" + (char) (256 + '8'), 2);
        fault(check, "1X8", 1);
    }

    @Holds(at = "Terms", words = "an \"x\" is allowed behind each pixel")
    static void xBehindEachPixel(Check check) {
        // Also behind the eighth pixel of a row: the digit is what is too much.
        fault(check, "11111111x2", 9);
        fault(check, "11111111x8", 9);
        fault(check, "11111111x", 9);
        fault(check, "11111111x/", 9);
        fault(check, "1x71x2", 5);
        fault(check, "1x8/2222222.x3", 13);
        for (int place = 0; place < 7; place++) {
            String before = "1".repeat(place);
            drawn(check, before + "2x2" + ".".repeat(6 - place), before + "22" + ".".repeat(6
                    - place));
        }
        // Nor does it stand behind the pixel that a text before this one ended with.
        Run again = new Run(check).with("addPart()").text("11111111").due("draw(0)", 1);
        again.text("x8").refused("draw(0)", -100).text("1x").refused("draw(0)", -102);
        again.text("8").refused("draw(0)", -100).text("2x8").due("draw(0)", 1);
        // Not at the beginning of a row, nor behind an item that has one already.
        fault(check, "x8", 0);
        fault(check, "x", 0);
        fault(check, "1x8/x8", 4);
        fault(check, "1x2x2", 3);
        fault(check, "1x8x", 3);
        fault(check, "1x8x2", 3);
        fault(check, "11x7x", 4);
    }

    @Holds(at = "Terms", words = "The fault of the text is the index, from 0, of the first character"
            + " that is not allowed at its place")
    static void firstThatIsNotAllowed(Check check) {
        fault(check, "a", 0);
        fault(check, "ab", 0);
        fault(check, "1a", 1);
        fault(check, "1x8/1x8/2 2", 9);
        fault(check, "12a3b", 2);
        fault(check, "1x8/1x7a", 7);
        // A fault comes before the next one, and before the end that is too early.
        fault(check, "1x9/a", 2);
        fault(check, "1/a", 1);
        fault(check, "1x8a", 3);
        String text = "1x8/1x8/1x8/1x8/1x8/1x8/1x8/........";
        for (int at = 0; at < text.length(); at++) {
            Run run = new Run(check).with("addPart()");
            run.text(text.substring(0, at) + "#" + text.substring(at + 1)).due("draw(0)", -100 - at);
        }
    }

    @Holds(at = "Terms", words = "a pixel with which the row would have more than 8")
    static void ninthPixel(Check check) {
        fault(check, "1x81", 3);
        fault(check, "1x8.", 3);
        fault(check, "123123123", 8);
        fault(check, ".........", 8);
        fault(check, "1x7.3", 4);
        fault(check, "1x71x2", 5);
        fault(check, "1x8/1x82", 7);
        fault(check, "1x42x43", 6);
        fault(check, EIGHT_ROWS + "1", EIGHT_ROWS.length());
    }

    @Holds(at = "Terms", words = "the digit with which it would")
    static void digitWithMoreThan8(Check check) {
        for (int before = 1; before < 8; before++) {
            for (int times = 2; times <= 8; times++) {
                String text = ".".repeat(before) + "1x" + times;
                if (before + times > 8) {
                    fault(check, text, before + 2);
                    fault(check, text + "1", before + 2);
                } else if (before + times == 8) {
                    drawn(check, text, ".".repeat(before) + "1".repeat(times));
                } else {
                    fault(check, text, text.length());
                }
            }
        }
        fault(check, "1x8/1x42x5", 9);
    }

    @Holds(at = "Terms", words = "a \"/\" when the row has fewer")
    static void rowThatHasFewer(Check check) {
        for (int width = 0; width < 8; width++) {
            fault(check, "1".repeat(width) + "/1x8", width);
            fault(check, "1x8/" + "1".repeat(width) + "/", 4 + width);
        }
        new Run(check).with("addPart()").text("11111111/1x8").due("draw(0)", 2);
        fault(check, "1x7/1x8", 3);
        fault(check, "1x/1x8", 2);
        fault(check, "/", 0);
        fault(check, "1x8//", 4);
    }

    @Holds(at = "Terms", words = "or behind the eighth row")
    static void behindTheEighthRow(Check check) {
        new Run(check).with("addPart()").text(EIGHT_ROWS).due("draw(0)", 8);
        fault(check, EIGHT_ROWS + "/", EIGHT_ROWS.length());
        fault(check, EIGHT_ROWS + "/1x8", EIGHT_ROWS.length());
        fault(check, EIGHT_ROWS + "//", EIGHT_ROWS.length());
        String seven = "1x8/1x8/1x8/1x8/1x8/1x8/1x8";
        new Run(check).with("addPart()").text(seven).due("draw(0)", 7);
        new Run(check).with("addPart()").text(seven + "/3x8").due("draw(0)", 8).row(0, 7,
                "33333333");
    }

    @Holds(at = "Terms",
            words = "or its length if it ends too early (the last row has fewer than 8 pixels).")
    static void endsTooEarly(Check check) {
        fault(check, "", 0);
        for (int width = 1; width < 8; width++) {
            fault(check, "1".repeat(width), width);
            fault(check, "1x8/" + "1".repeat(width), 4 + width);
        }
        fault(check, "1x7", 3);
        fault(check, "1x8/", 4);
        fault(check, "1x8/1x8/", 8);
        fault(check, EIGHT_ROWS.substring(0, 28), 28);
        fault(check, EIGHT_ROWS.substring(0, 30), 30);
        // Within an item.
        fault(check, "1x", 2);
        fault(check, "1111111x", 8);
        fault(check, "11111111x", 9);
        fault(check, "1x8/2x", 6);
    }

    /** A text whose first row is this one, and that has no fault. */
    private static void drawn(Check check, String text, String row) {
        new Run(check).with("addPart()").text(text).due("draw(0)", 1).row(0, 0, row);
    }

    /** A text that has this fault: draw() tells it and changes nothing. */
    private static void fault(Check check, String text, int fault) {
        new Run(check).with("addPart()", "setPixel(0, 0, 1, 2)").text(text)
                .refused("draw(0)", -100 - fault);
    }

    // ---- Promise 4

    @Holds(at = "Promise 4", words = "Appends a character to the text.")
    static void type(Check check) {
        Run run = new Run(check).with("addPart()", "type('1')", "type('x')", "type('7')");
        run.due("type('.')", 4).due("draw(0)", 1).row(0, 0, "1111111.");
        run.with("type('/')", "type('2')", "type('x')", "type('8')").due("draw(0)", 2);
        run.row(0, 1, "22222222").due("count(13)", 8).due("count(12)", 3);
    }

    @Holds(at = "Promise 4", words = "`character`: any character")
    static void typeCharacter(Check check) {
        for (int sign = 0; sign < 65536; sign += sign < 300 ? 1 : sign > 65500 ? 1 : 97) {
            new Run(check).due("type(" + sign + ")", 1).due("count(13)", 1);
        }
        new Run(check).due("type(65535)", 1).due("type(0)", 2).due("type(' ')", 3);
        // Each of these has its place in the text, whatever draw() says of it.
        new Run(check).with("addPart()", "type('1')", "type('x')", "type('8')", "type(0)").refused(
                "draw(0)", -103);
    }

    @Holds(at = "Promise 4",
            words = "Returns the length of the text then; FULL if it has 60 characters.")
    static void typeAnswers(Check check) {
        Run run = new Run(check);
        for (int length = 1; length <= 60; length++) {
            run.due("type(" + 4 * length + ")", length);
        }
        run.refused("type('1')", FULL).refused("type(0)", FULL).refused("type(65535)", FULL);
        run.due("type('1')", FULL).due("type('1')", FULL).due("count(13)", 60);
        run.due("clearText()", 60).due("type('1')", 1);
    }

    // ---- Promise 5

    @Holds(at = "Promise 5", words = "Empties the text.")
    static void clearText(Check check) {
        Run run = new Run(check).with("addPart()").text("1x8/2x8").with("clearText()");
        run.due("count(13)", 0).refused("draw(0)", -100).text("3x8").due("draw(0)", 1);
        run.row(0, 0, "33333333").row(0, 1, "........").due("count(12)", 2);
    }

    @Holds(at = "Promise 5", words = "Returns the length that it had.")
    static void clearTextAnswers(Check check) {
        Run run = new Run(check).due("clearText()", 0).due("clearText()", 0);
        for (int length = 1; length < 12; length++) {
            run.times(length, "type('a')").due("clearText()", length).due("clearText()", 0);
        }
        run.times(60, "type('1')").due("type('1')", FULL).due("clearText()", 60);
        run.due("clearText()", 0);
    }

    // ---- Promise 6

    @Holds(at = "Promise 6",
            words = "Draws the rows of the text, which stays, into a part; its other rows stay.")
    static void draw(Check check) {
        for (int rows = 1; rows <= 8; rows++) {
            String text = "12.12.12/".repeat(rows).substring(0, 9 * rows - 1);
            if (rows > 6) {
                text = ".x8/".repeat(rows).substring(0, 4 * rows - 1);
            }
            String due = rows > 6 ? "........" : "12.12.12";
            Run run = new Run(check).parts("", "3x8/3x8/3x8/3x8/3x8/3x8/3x8/3x8", "2.x7");
            run.text(text).due("draw(1)", rows).due("count(13)", text.length());
            for (int row = 0; row < 8; row++) {
                run.row(1, row, row < rows ? due : "33333333");
            }
            run.due("share(0)", 0).due("share(2)", 1 / 64.0);
            // The same text into another part.
            run.due("draw(0)", rows).row(0, rows - 1, due).due("count(13)", text.length());
        }
    }

    @Holds(at = "Promise 6", words = "This is an act.")
    static void drawIsAnAct(Check check) {
        Run run = new Run(check).parts("1x8", "").text("2x8/1x8").change("draw(0)").change("draw(1)");
        run.text("1x8").act("draw(0)").times(5, "next(1)").change("draw(1)").act("draw(0)");
    }

    @Holds(at = "Promise 6", words = "`part`: a part")
    static void drawPart(Check check) {
        new Run(check).text("1x8").refused("draw(0)", UNKNOWN);
        new Run(check).times(3, "addPart()").text("1x8").range("draw(%)", 0, 2, UNKNOWN);
        new Run(check).times(24, "addPart()").text("1x8").taken("draw(23)")
                .refused("draw(24)", UNKNOWN);
        for (int part = 0; part < 3; part++) {
            Run run = new Run(check).times(3, "addPart()").text("1x8").with("draw(" + part + ")");
            for (int other = 0; other < 3; other++) {
                run.due("share(" + other + ")", other == part ? 8 / 64.0 : 0);
            }
        }
    }

    @Holds(at = "Promise 6", words = "Returns the number of rows that are drawn; UNKNOWN; -100 minus"
            + " the fault of the text if it has one (which is an error).")
    static void drawAnswers(Check check) {
        for (int rows = 1; rows <= 8; rows++) {
            String text = "1x8/".repeat(rows).substring(0, 4 * rows - 1);
            new Run(check).with("addPart()").text(text).due("draw(0)", rows);
        }
        new Run(check).with("addPart()").refused("draw(0)", -100).refused("draw(1)", UNKNOWN);
        Run run = new Run(check).with("addPart()").text("1x8/1x9");
        run.refused("draw(0)", -106).refused("draw(1)", UNKNOWN).refused("draw(-1)", UNKNOWN);
        new Run(check).with("addPart()").text("1".repeat(60)).refused("draw(0)", -108);
        new Run(check).with("addPart()").text("x").refused("draw(0)", -100);
    }
}
