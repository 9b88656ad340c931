/** The sentences on parts, palettes and shares: promises 2, 3, 8 and 19 to 21. */
final class SheetSentences implements Errors {
    private static final String FULL_ROWS = "1x8/2x8/3x8/1x8/2x8/3x8/1x8/2x8";

    private SheetSentences() {
    }

    // ---- Terms: Sheet

    @Holds(at = "Terms", words = "The sheet has up to 24 parts, numbered from 0.")
    static void upTo24Parts(Check check) {
        Run run = new Run(check);
        for (int part = 0; part < 24; part++) {
            run.due("count(0)", part).due("pixel(" + part + ", 0, 0)", UNKNOWN);
            run.due("addPart()", part).due("pixel(" + part + ", 7, 7)", 0);
        }
        run.due("count(0)", 24).refused("addPart()", FULL).refused("pixel(24, 0, 0)", UNKNOWN);
        run.refused("setPixel(24, 0, 0, 0)", UNKNOWN).taken("setPixel(23, 0, 0, 0)");
        run.due("undo()", 4).due("pixel(23, 0, 0)", UNKNOWN).due("addPart()", 23);
        run.refused("addPart()", FULL);
    }

    @Holds(at = "Terms", words = "A part has 8 rows of 8 pixels; a pixel is 0 (nothing) to 3.")
    static void eightRowsOfEight(Check check) {
        Run run = new Run(check).with("addPart()");
        run.range("pixel(0, %, 7)", 0, 7, BAD_VALUE).range("pixel(0, 7, %)", 0, 7, BAD_VALUE);
        run.range("setPixel(0, 7, 7, %)", 0, 3, BAD_VALUE);
        run.with("addSprite(0, 0, 0)");
        for (int pixel = 0; pixel < 4; pixel++) {
            Run one = run.copy().with("setPixel(0, 0, 0, " + pixel + ")");
            one.due("pixel(0, 0, 0)", pixel).due("color(0, 0)", pixel);
            one.due("share(0)", pixel == 0 ? 0 : 1 / 64.0);
        }
        for (int place = 0; place < 64; place++) {
            run.with("setPixel(0, " + place / 8 + ", " + place % 8 + ", 3)");
            run.due("share(0)", (place + 1) / 64.0);
        }
    }

    @Holds(at = "Terms", words = "All pixels of a new part are 0.")
    static void newPartIsBlank(Check check) {
        Run run = new Run(check);
        for (int part = 0; part < 24; part++) {
            run.with("addPart()").row(part, part % 8, "........").due("share(" + part + ")", 0);
        }
        Run whole = new Run(check).with("addPart()");
        for (int row = 0; row < 8; row++) {
            whole.row(0, row, "........");
        }
        // A number that was used before: the part was undone, restored away, or packed.
        Run undone = new Run(check).parts("", "").with("setPixel(1, 0, 0, 3)", "undo()", "undo()");
        undone.due("addPart()", 1).due("share(1)", 0);
        undone.with("setPixel(1, 4, 4, 2)", "undo()", "undo()").due("addPart()", 1);
        undone.due("share(1)", 0).due("pixel(1, 4, 4)", 0);
        Run restored = new Run(check).with("keep(0)").parts(FULL_ROWS).with("restore(0)");
        restored.due("addPart()", 0).due("share(0)", 0);
        Run packed = new Run(check).parts("1.x7", FULL_ROWS, FULL_ROWS).with("pack(false)");
        packed.due("addPart()", 2).due("share(2)", 0);
        packed.with("pack(true)").due("count(0)", 0).due("addPart()", 0).due("share(0)", 0);
    }

    @Holds(at = "Terms", words = "Two parts are alike if, mirrored in no, one or both directions,"
            + " one of them has the pixels of the other one.")
    static void alikeParts(Check check) {
        Run run = new Run(check).parts(Scenes.ODD);
        for (int one = 0; one < 4; one++) {
            for (int other = 0; other < 4; other++) {
                run.due("alike(" + one + ", " + other + ")", one ^ other);
            }
        }
        run.parts("1.23...1/3.x7/.1.x6", "1.23...1/3.x7/.2.x51", "13.x6/..2.x5/2.x7/3.x7/.x8/.x8"
                + "/.x8/1.x7", "1.23...1/3.x7");
        for (int other = 4; other < 8; other++) {
            // One pixel is another one, one more is there, turned by a quarter, one is not there.
            run.refused("alike(0, " + other + ")", NONE).refused("alike(" + other + ", 0)", NONE);
        }
        new Run(check).with("addPart()", "addPart()").due("alike(0, 1)", 0);
        new Run(check).parts(FULL_ROWS, FULL_ROWS).due("alike(0, 1)", 0).with(
                "setPixel(1, 7, 7, 1)").due("alike(0, 1)", NONE);
    }

    // ---- Terms: Palettes, Shares

    @Holds(at = "Terms", words = "There are four palettes, 0 to 3; each gives a color (0 to 63) for"
            + " the pixels 1, 2 and 3")
    static void fourPalettes(Check check) {
        Run run = new Run(check);
        run.range("setColor(%, 1, 0)", 0, 3, UNKNOWN).range("setColor(3, %, 0)", 1, 3, BAD_VALUE);
        run.range("setColor(3, 3, %)", 0, 63, BAD_VALUE);
        for (int place = 0; place < 12; place++) {
            run.with("setColor(" + place / 3 + ", " + (place % 3 + 1) + ", " + (63 - place) + ")");
        }
        for (int place = 0; place < 12; place++) {
            run.due("setColor(" + place / 3 + ", " + (place % 3 + 1) + ", 0)", 63 - place);
        }
    }

    @Holds(at = "Terms",
            words = "at first the color of the pixel v in the palette p is 16 * p + v.")
    static void firstColors(Check check) {
        Run run = new Run(check).parts("123.x5").with("addSprite(0, 0, 0)");
        for (int palette = 0; palette < 4; palette++) {
            run.with("set(0, 2, " + palette + ")");
            for (int pixel = 1; pixel < 4; pixel++) {
                int due = 16 * palette + pixel;
                run.due("color(0, " + (pixel - 1) + ")", due);
                run.copy().due("setColor(" + palette + ", " + pixel + ", 0)", due);
            }
        }
    }

    @Holds(at = "Terms", words = "The color behind all is 0.")
    static void behindAll(Check check) {
        Run run = new Run(check).parts("3.x63").with("addSprite(0, 12, 12)");
        for (int palette = 0; palette < 4; palette++) {
            for (int pixel = 1; pixel < 4; pixel++) {
                run.with("setColor(" + palette + ", " + pixel + ", 63)");
            }
        }
        run.with("swap(0, 31, 0, 1)").due("color(12, 12)", 63).due("color(12, 19)", 63);
        for (int column = 0; column < 32; column++) {
            run.due("color(12, " + column + ")", column == 12 || column == 19 ? 63 : 0);
        }
        for (int corner = 0; corner < 4; corner++) {
            run.due("color(" + 31 * (corner / 2) + ", " + 31 * (corner % 2) + ")", 0);
        }
    }

    @Holds(at = "Terms", words = "The share of a part is the number of its pixels that are not 0,"
            + " divided by 64, as a float.")
    static void shareByPixels(Check check) {
        Run run = new Run(check).with("addPart()").due("share(0)", 0);
        for (int place = 0; place < 64; place++) {
            run.with("setPixel(0, " + place % 8 + ", " + place / 8 + ", " + (place % 3 + 1) + ")");
            run.due("share(0)", (place + 1) / 64.0f);
        }
        // Another pixel that is not 0 is no further one.
        run.with("setPixel(0, 3, 3, 1)").due("share(0)", 1).with("setPixel(0, 3, 3, 3)");
        run.due("share(0)", 1).with("setPixel(0, 3, 3, 0)").due("share(0)", 63 / 64.0f);
    }

    // ---- Promise 2

    @Holds(at = "Promise 2", words = "Adds a part.")
    static void addPart(Check check) {
        Run run = new Run(check).parts("3.x7");
        run.with("addPart()").due("count(0)", 2).due("pixel(1, 0, 0)", 0).due("pixel(0, 0, 0)", 3);
        run.due("count(1)", 0).due("pixel(2, 0, 0)", UNKNOWN);
    }

    @Holds(at = "Promise 2", words = "This is an act.")
    static void addPartIsAnAct(Check check) {
        new Run(check).change("addPart()");
        Run run = new Run(check).times(23, "addPart()").change("addPart()").with("addPart()");
        run.refused("addPart()", FULL).due("undo()", 4).due("count(0)", 23);
    }

    @Holds(at = "Promise 2", words = "Returns its number; FULL if there are 24.")
    static void addPartAnswers(Check check) {
        Run run = new Run(check);
        for (int part = 0; part < 24; part++) {
            run.due("addPart()", part);
        }
        run.refused("addPart()", FULL).due("addPart()", FULL).due("addPart()", FULL);
        // Room that is made again: by undo, by packing.
        run.copy().due("undo()", 4).due("addPart()", 23).due("addPart()", FULL);
        run.copy().due("pack(false)", 23).due("addPart()", 1);
        run.copy().due("pack(true)", 24).due("addPart()", 0);
    }

    // ---- Promise 3

    @Holds(at = "Promise 3", words = "Sets a pixel of a part.")
    static void setPixel(Check check) {
        for (int[] at : new int[][] {{0, 0}, {0, 7}, {3, 4}, {7, 0}, {7, 7}}) {
            Run run = new Run(check).parts("", FULL_ROWS, "");
            run.due("setPixel(1, " + at[0] + ", " + at[1] + ", 0)", at[0] % 3 + 1);
            for (int row = 0; row < 8; row++) {
                for (int column = 0; column < 8; column++) {
                    int due = row == at[0] && column == at[1] ? 0 : row % 3 + 1;
                    run.due("pixel(1, " + row + ", " + column + ")", due);
                }
            }
            run.due("share(0)", 0).due("share(2)", 0);
        }
    }

    @Holds(at = "Promise 3", words = "This is an act.")
    static void setPixelIsAnAct(Check check) {
        Run run = new Run(check).parts("", "1.x7").change("setPixel(1, 7, 7, 3)");
        run.change("setPixel(1, 0, 0, 0)").act("setPixel(1, 0, 0, 1)");
        run.times(5, "next(1)").change("setPixel(0, 0, 0, 3)").act("setPixel(0, 0, 0, 0)");
    }

    @Holds(at = "Promise 3", words = "`part`: a part")
    static void setPixelPart(Check check) {
        new Run(check).refused("setPixel(0, 0, 0, 0)", UNKNOWN);
        new Run(check).times(3, "addPart()").range("setPixel(%, 0, 0, 1)", 0, 2, UNKNOWN);
        new Run(check).times(24, "addPart()").taken("setPixel(23, 0, 0, 1)")
                .refused("setPixel(24, 0, 0, 1)", UNKNOWN);
    }

    @Holds(at = "Promise 3", words = "`row`: 0 to 7")
    static void setPixelRow(Check check) {
        Run run = new Run(check).with("addPart()");
        run.range("setPixel(0, %, 0, 1)", 0, 7, BAD_VALUE);
        run.range("setPixel(0, %, 7, 0)", 0, 7, BAD_VALUE);
        for (int row = 0; row < 8; row++) {
            run.behind("setPixel(0, " + row + ", 2, 3)", "pixel(0, " + row + ", 2)", 3);
        }
    }

    @Holds(at = "Promise 3", words = "`column`: 0 to 7")
    static void setPixelColumn(Check check) {
        Run run = new Run(check).with("addPart()");
        run.range("setPixel(0, 0, %, 1)", 0, 7, BAD_VALUE);
        run.range("setPixel(0, 7, %, 0)", 0, 7, BAD_VALUE);
        for (int column = 0; column < 8; column++) {
            run.behind("setPixel(0, 5, " + column + ", 3)", "pixel(0, 5, " + column + ")", 3);
        }
    }

    @Holds(at = "Promise 3", words = "`pixel`: 0 to 3")
    static void setPixelPixel(Check check) {
        Run run = new Run(check).parts("1.x7").range("setPixel(0, 0, 0, %)", 0, 3, BAD_VALUE);
        run.range("setPixel(0, 7, 7, %)", 0, 3, BAD_VALUE);
        for (int pixel = 0; pixel < 4; pixel++) {
            run.behind("setPixel(0, 0, 0, " + pixel + ")", "pixel(0, 0, 0)", pixel);
        }
    }

    @Holds(at = "Promise 3", words = "Returns the previous pixel; UNKNOWN; BAD_VALUE.")
    static void setPixelAnswers(Check check) {
        Run run = new Run(check).with("addPart()");
        for (int before = 0; before < 4; before++) {
            for (int after = 0; after < 4; after++) {
                run.with("setPixel(0, 7, 0, " + before + ")");
                run.due("setPixel(0, 7, 0, " + after + ")", before).due("pixel(0, 7, 0)", after);
            }
        }
        int[][] values = {{0, -1, 1}, {7, -1, 8}, {0, -1, 8}, {3, -1, 4}};
        new Run(check).parts("2.x7").combinations("setPixel(%, %, %, %)", values, UNKNOWN,
                BAD_VALUE, BAD_VALUE, BAD_VALUE);
    }

    // ---- Promise 8

    @Holds(at = "Promise 8", words = "Sets a color.")
    static void setColor(Check check) {
        Run run = new Run(check).with("setColor(2, 1, 63)");
        for (int palette = 0; palette < 4; palette++) {
            for (int pixel = 1; pixel < 4; pixel++) {
                int due = palette == 2 && pixel == 1 ? 63 : 16 * palette + pixel;
                run.copy().due("setColor(" + palette + ", " + pixel + ", 0)", due);
            }
        }
        Run seen = new Run(check).parts("12.x6").with("addSprite(0, 0, 0)", "setColor(0, 2, 40)");
        seen.due("color(0, 0)", 1).due("color(0, 1)", 40);
    }

    @Holds(at = "Promise 8", words = "This is an act.")
    static void setColorIsAnAct(Check check) {
        new Run(check).change("setColor(0, 1, 0)").change("setColor(3, 3, 63)")
                .act("setColor(3, 3, 51)").times(5, "next(1)").change("setColor(1, 2, 9)");
    }

    @Holds(at = "Promise 8", words = "`palette`: 0 to 3")
    static void setColorPalette(Check check) {
        new Run(check).range("setColor(%, 1, 7)", 0, 3, UNKNOWN)
                .range("setColor(%, 3, 63)", 0, 3, UNKNOWN);
    }

    @Holds(at = "Promise 8", words = "`pixel`: 1 to 3")
    static void setColorPixel(Check check) {
        new Run(check).range("setColor(0, %, 7)", 1, 3, BAD_VALUE)
                .range("setColor(3, %, 0)", 1, 3, BAD_VALUE);
    }

    @Holds(at = "Promise 8", words = "`color`: 0 to 63")
    static void setColorColor(Check check) {
        Run run = new Run(check).range("setColor(0, 1, %)", 0, 63, BAD_VALUE)
                .range("setColor(3, 3, %)", 0, 63, BAD_VALUE);
        for (int color = 0; color < 64; color++) {
            run.behind("setColor(1, 2, " + color + ")", "setColor(1, 2, 1)", color);
        }
    }

    @Holds(at = "Promise 8", words = "Returns the previous color; UNKNOWN; BAD_VALUE.")
    static void setColorAnswers(Check check) {
        new Run(check).due("setColor(1, 1, 63)", 17).due("setColor(1, 1, 0)", 63)
                .due("setColor(1, 1, 5)", 0).due("undo()", 2).due("setColor(1, 1, 5)", 0);
        int[][] values = {{3, -1, 4}, {1, 0, 4, -1}, {63, -1, 64}};
        new Run(check).combinations("setColor(%, %, %)", values, UNKNOWN, BAD_VALUE, BAD_VALUE);
    }

    // ---- Promises 19 and 20

    @Holds(at = "Promise 19", words = "`part`: a part")
    static void pixelPart(Check check) {
        new Run(check).refused("pixel(0, 0, 0)", UNKNOWN);
        new Run(check).times(3, "addPart()").range("pixel(%, 0, 0)", 0, 2, UNKNOWN);
        new Run(check).times(24, "addPart()").taken("pixel(23, 7, 7)")
                .refused("pixel(24, 7, 7)", UNKNOWN);
        Run run = new Run(check).parts("1.x7", "2.x7", "3.x7");
        run.due("pixel(0, 0, 0)", 1).due("pixel(1, 0, 0)", 2).due("pixel(2, 0, 0)", 3);
    }

    @Holds(at = "Promise 19", words = "`row`: 0 to 7")
    static void pixelRow(Check check) {
        Run run = new Run(check).parts(FULL_ROWS).range("pixel(0, %, 0)", 0, 7, BAD_VALUE);
        for (int row = 0; row < 8; row++) {
            run.due("pixel(0, " + row + ", 7)", row % 3 + 1);
        }
    }

    @Holds(at = "Promise 19", words = "`column`: 0 to 7")
    static void pixelColumn(Check check) {
        Run run = new Run(check).parts("123.321.").range("pixel(0, 0, %)", 0, 7, BAD_VALUE);
        run.row(0, 0, "123.321.").range("pixel(0, 7, %)", 0, 7, BAD_VALUE);
    }

    @Holds(at = "Promise 19", words = "Returns the pixel; UNKNOWN; BAD_VALUE.")
    static void pixelAnswers(Check check) {
        int[][] values = {{0, -1, 1}, {7, -1, 8}, {7, -1, 8}};
        Run run = new Run(check).parts("3.x7").combinations("pixel(%, %, %)", values, UNKNOWN,
                BAD_VALUE, BAD_VALUE);
        run.due("pixel(0, 0, 0)", 3).due("pixel(0, 0, 1)", 0).due("pixel(0, 7, 7)", 0);
    }

    @Holds(at = "Promise 20", words = "`part`: a part")
    static void sharePart(Check check) {
        Run run = new Run(check).parts("1.x7", "11.x6", "111.x5");
        for (int part = 0; part < 3; part++) {
            run.due("share(" + part + ")", (part + 1) / 64.0);
        }
    }

    @Holds(at = "Promise 20", words = "Returns its share; 0 if there is no such part.")
    static void shareAnswers(Check check) {
        new Run(check).due("share(0)", 0).due("share(-1)", 0).due("share(23)", 0);
        Run run = new Run(check).parts("1.x7", FULL_ROWS).due("share(0)", 1 / 64.0);
        run.due("share(1)", 1);
        for (int part : new int[] {-1, 2, 23, 24, 25, Integer.MIN_VALUE, Integer.MAX_VALUE}) {
            run.due("share(" + part + ")", 0);
        }
        // A part that was there has no share any more.
        run.with("pack(true)").due("share(0)", 0).due("share(1)", 0).with("undo()");
        run.due("share(1)", 1);
    }

    // ---- Promise 21

    @Holds(at = "Promise 21", words = "`one`: a part")
    static void alikeOne(Check check) {
        new Run(check).refused("alike(0, 0)", UNKNOWN);
        new Run(check).times(3, "addPart()").range("alike(%, 0)", 0, 2, UNKNOWN);
        new Run(check).times(24, "addPart()").taken("alike(23, 0)")
                .refused("alike(24, 0)", UNKNOWN);
    }

    @Holds(at = "Promise 21", words = "`other`: a part")
    static void alikeOther(Check check) {
        new Run(check).times(3, "addPart()").range("alike(0, %)", 0, 2, UNKNOWN);
        new Run(check).times(24, "addPart()").taken("alike(0, 23)")
                .refused("alike(0, 24)", UNKNOWN);
    }

    @Holds(at = "Promise 21", words = "Returns how the other one is to be mirrored so that it has"
            + " the pixels of the first one (the lowest number of several); UNKNOWN; NONE if they"
            + " are not alike.")
    static void alikeAnswers(Check check) {
        new Run(check).parts(Scenes.ODD).due("alike(0, 0)", 0).due("alike(0, 1)", 1)
                .due("alike(0, 2)", 2).due("alike(0, 3)", 3).due("alike(3, 0)", 3);
        // 2 and 3; 1 and 3; 0 and 1; 0 and 3; 1 and 2; all.
        new Run(check).parts("12....21", ".x8/.x8/.x8/.x8/.x8/.x8/.x8/12....21")
                .due("alike(0, 1)", 2).due("alike(0, 0)", 0);
        new Run(check).parts("1.x7/2.x7/2.x7/1.x7", "").with("setPixel(0, 4, 0, 0)").due(
                "alike(0, 0)", 0);
        new Run(check).parts("1.x7/.x8/.x8/.x8/.x8/.x8/.x8/1.x7",
                ".x71/.x8/.x8/.x8/.x8/.x8/.x8/.x71").due("alike(0, 1)", 1).due("alike(1, 0)", 1);
        new Run(check).parts("1.x7/.x8/.x8/.x8/.x8/.x8/.x8/.x71",
                ".x71/.x8/.x8/.x8/.x8/.x8/.x8/1.x7").due("alike(0, 1)", 1).due("alike(0, 0)", 0);
        new Run(check).parts("", "").due("alike(0, 1)", 0);
        Run run = new Run(check).parts("1.x7", "2.x7").refused("alike(0, 1)", NONE);
        int[][] values = {{0, -1, 2}, {0, -1, 2}};
        run.combinations("alike(%, %)", values, UNKNOWN, UNKNOWN);
    }
}
