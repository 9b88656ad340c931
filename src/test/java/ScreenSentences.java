/** The sentences on the screen, its sprites and swaps: promises 9 to 12, 22 and 23. */
final class ScreenSentences implements Errors {
    /** Each row and each column is another one: in the corners 1, 2, 3, and nothing. */
    private static final String CORNERS = "1.x62/.x8/.x8/.x8/.x8/.x8/.x8/3.x7";

    private ScreenSentences() {
    }

    // ---- Terms: Screen

    @Holds(at = "Terms", words = "The screen has 32 columns and 32 lines, both numbered from 0.")
    static void linesAndColumns(Check check) {
        Run run = new Run(check).range("color(%, 31)", 0, 31, UNKNOWN);
        run.range("color(31, %)", 0, 31, UNKNOWN).range("line(%, 0)", 0, 31, UNKNOWN);
        Run tiled = new Run(check).parts(Scenes.FILLED).with("setLimit(20)");
        for (int place = 0; place < 16; place++) {
            tiled.with("addSprite(0, " + place % 4 * 8 + ", " + place / 4 * 8 + ")");
        }
        for (int line = 0; line < 32; line++) {
            tiled.due("line(" + line + ", 2)", 32).due("color(" + line + ", " + line + ")", 1);
            tiled.due("color(" + line + ", " + (31 - line) + ")", 1);
        }
        tiled.due("count(6)", 0).due("line(32, 2)", UNKNOWN).due("line(-1, 2)", UNKNOWN);
    }

    @Holds(at = "Terms", words = "There are up to 20 sprites, numbered from 0.")
    static void upTo20Sprites(Check check) {
        Run run = new Run(check).with("addPart()");
        for (int sprite = 0; sprite < 20; sprite++) {
            run.due("count(1)", sprite).due("sprite(" + sprite + ", 3)", UNKNOWN);
            run.due("addSprite(0, 0, 0)", sprite).due("sprite(" + sprite + ", 3)", 1);
        }
        run.due("count(1)", 20).refused("addSprite(0, 0, 0)", FULL);
        run.refused("sprite(20, 0)", UNKNOWN).refused("move(20, 0, 0)", UNKNOWN);
        run.due("undo()", 4).due("addSprite(0, 0, 0)", 19).refused("addSprite(0, 0, 0)", FULL);
    }

    @Holds(at = "Terms", words = "A sprite shows a part at a place (column x and line y of its upper"
            + " left pixel, -7 to 31 each)")
    static void placeOfASprite(Check check) {
        Run run = new Run(check).parts("123.x5/2.x7/3.x7/.x8/.x8/.x8/.x8/.x71");
        run.with("addSprite(0, 9, 20)").colors(20, 8, ".123.").colors(21, 8, ".2.").colors(22, 9, "3.");
        run.colors(27, 15, ".1.").colors(19, 9, ".").colors(28, 16, ".");
        run.with("move(0, -7, -7)").colors(0, 0, "1.").colors(1, 0, ".");
        run.with("move(0, 31, 31)").colors(31, 30, ".1").colors(30, 30, "..").colors(0, 0, ".");
        run.with("move(0, 31, -5)").colors(0, 30, "..").due("line(2, 0)", 1).due("line(3, 0)", 0);
        run.with("move(0, -7, 24)").colors(31, 0, "1.").due("line(24, 2)", 0);
        run.with("move(0, -2, 31)").colors(31, 0, "3.").due("line(31, 2)", 1);
        run.with("move(0, 29, 0)").colors(0, 28, ".123").colors(0, 0, "...").colors(1, 0, "..");
    }

    @Holds(at = "Terms", words = "mirrored in x (columns), in y (lines), in both, or not (0 no, 1 x,"
            + " 2 y, 3 both)")
    static void mirroredSprite(Check check) {
        Run run = new Run(check).parts(CORNERS).with("addSprite(0, 4, 6)").due("sprite(0, 1)", 0);
        String[][] corners = {{"1......2", "3......."}, {"2......1", ".......3"},
            {"3.......", "1......2"}, {".......3", "2......1"}};
        for (int way = 0; way < 4; way++) {
            run.with("set(0, 1, " + way + ")").colors(6, 4, corners[way][0]);
            run.colors(13, 4, corners[way][1]).colors(7, 4, "........").due("sprite(0, 1)", way);
        }
        run.range("set(0, 1, %)", 0, 3, BAD_VALUE);
        // Cut off by the screen, the mirrored pixels are the ones that are seen.
        run.with("move(0, -7, 6)").colors(6, 0, "3.").with("set(0, 1, 0)").colors(6, 0, "2.");
        run.with("move(0, 4, 31)").colors(31, 4, "1......2").with("set(0, 1, 2)");
        run.colors(31, 4, "3.......");
    }

    @Holds(at = "Terms", words = "with a palette; it is on (at first) or off.")
    static void paletteAndOn(Check check) {
        Run run = new Run(check).parts("1x8").with("addSprite(0, 0, 0)").due("sprite(0, 3)", 1);
        for (int palette = 0; palette < 4; palette++) {
            run.with("set(0, 2, " + palette + ")").due("color(0, 0)", 16 * palette + 1);
        }
        run.range("set(0, 2, %)", 0, 3, BAD_VALUE).range("set(0, 3, %)", 0, 1, BAD_VALUE);
        run.with("set(0, 3, 0)").due("sprite(0, 3)", 0).due("color(0, 0)", 0).due("count(2)", 0);
        run.with("set(0, 3, 1)").due("sprite(0, 3)", 1).due("color(0, 0)", 49).due("count(2)", 1);
    }

    @Holds(at = "Terms", words = "The sprite covers 8 lines, y to y + 7.")
    static void coversEightLines(Check check) {
        for (int y = -7; y <= 31; y++) {
            Run run = new Run(check).with("addPart()", "addSprite(0, 0, " + y + ")");
            for (int line = 0; line < 32; line++) {
                run.due("line(" + line + ", 0)", line >= y && line <= y + 7 ? 1 : 0);
            }
        }
    }

    @Holds(at = "Terms", words = "Each line can have a swap: two palettes that are exchanged for all"
            + " sprites on this line")
    static void swapOfALine(Check check) {
        for (int one = 0; one < 4; one++) {
            for (int other = 0; other < 4; other++) {
                Run run = new Run(check).parts("1.x7/1.x7/1.x7");
                for (int palette = 0; palette < 4; palette++) {
                    run.with("addSprite(0, " + 2 * palette + ", 0)");
                    run.with("set(" + palette + ", 2, " + palette + ")");
                }
                run.with("swap(1, 1, " + one + ", " + other + ")");
                for (int palette = 0; palette < 4; palette++) {
                    int seen = palette == one ? other : palette == other ? one : palette;
                    run.due("color(0, " + 2 * palette + ")", 16 * palette + 1);
                    run.due("color(1, " + 2 * palette + ")", 16 * seen + 1);
                    run.due("color(2, " + 2 * palette + ")", 16 * palette + 1);
                    run.due("sprite(" + palette + ", 2)", palette);
                }
            }
        }
    }

    @Holds(at = "Terms", words = "at first no line has one.")
    static void noSwapAtFirst(Check check) {
        Run run = new Run(check).due("count(5)", 0);
        for (int line = 0; line < 32; line++) {
            run.due("line(" + line + ", 3)", NONE).due("line(" + line + ", 4)", NONE);
        }
    }

    // ---- Promise 9

    @Holds(at = "Promise 9", words = "Adds a sprite, not mirrored, with the palette 0.")
    static void addSprite(Check check) {
        Run run = new Run(check).parts("", CORNERS).with("addSprite(1, -3, 30)");
        int[] due = {1, 0, 0, 1, -3, 30};
        for (int what = 0; what < 6; what++) {
            run.due("sprite(0, " + what + ")", due[what]);
        }
        // A number that is used again comes with nothing of the sprite that was undone.
        run.with("addSprite(1, 1, 1)", "set(1, 1, 3)", "set(1, 2, 3)", "set(1, 3, 0)", "undo()",
                "undo()", "undo()", "undo()").due("count(1)", 1).due("addSprite(0, 5, 6)", 1);
        int[] again = {0, 0, 0, 1, 5, 6};
        for (int what = 0; what < 6; what++) {
            run.due("sprite(1, " + what + ")", again[what]).due("sprite(0, " + what + ")", due[what]);
        }
        Run restored = new Run(check).with("addPart()", "keep(0)", "addSprite(0, 1, 1)",
                "set(0, 1, 2)", "set(0, 2, 2)", "set(0, 3, 0)", "restore(0)", "addSprite(0, 0, 0)");
        restored.due("sprite(0, 1)", 0).due("sprite(0, 2)", 0).due("sprite(0, 3)", 1);
    }

    @Holds(at = "Promise 9", words = "This is an act.")
    static void addSpriteIsAnAct(Check check) {
        Run run = new Run(check).with("addPart()").change("addSprite(0, 0, 0)");
        run.times(19, "addSprite(0, 0, 0)").change("addSprite(0, -7, 31)");
        run.with("addSprite(0, 0, 0)").refused("addSprite(0, 0, 0)", FULL);
    }

    @Holds(at = "Promise 9", words = "`part`: a part")
    static void addSpritePart(Check check) {
        new Run(check).refused("addSprite(0, 0, 0)", UNKNOWN);
        Run run = new Run(check).times(3, "addPart()").range("addSprite(%, 0, 0)", 0, 2, UNKNOWN);
        for (int part = 0; part < 3; part++) {
            run.behind("addSprite(" + part + ", 0, 0)", "sprite(0, 0)", part);
        }
        new Run(check).times(24, "addPart()").taken("addSprite(23, 0, 0)")
                .refused("addSprite(24, 0, 0)", UNKNOWN);
    }

    @Holds(at = "Promise 9", words = "`x`: -7 to 31")
    static void addSpriteX(Check check) {
        Run run = new Run(check).with("addPart()").range("addSprite(0, %, 0)", -7, 31, BAD_VALUE);
        run.range("addSprite(0, %, -7)", -7, 31, BAD_VALUE);
        for (int x = -7; x <= 31; x++) {
            run.behind("addSprite(0, " + x + ", 3)", "sprite(0, 4)", x);
        }
    }

    @Holds(at = "Promise 9", words = "`y`: -7 to 31")
    static void addSpriteY(Check check) {
        Run run = new Run(check).with("addPart()").range("addSprite(0, 0, %)", -7, 31, BAD_VALUE);
        run.range("addSprite(0, 31, %)", -7, 31, BAD_VALUE);
        for (int y = -7; y <= 31; y++) {
            run.behind("addSprite(0, 3, " + y + ")", "sprite(0, 5)", y);
        }
    }

    @Holds(at = "Promise 9", words = "Returns its number; UNKNOWN; BAD_VALUE; FULL if there are 20.")
    static void addSpriteAnswers(Check check) {
        int[][] values = {{0, -1, 1}, {-7, -8, 32}, {31, -8, 32}};
        Run run = new Run(check).with("addPart()");
        run.combinations("addSprite(%, %, %)", values, UNKNOWN, BAD_VALUE, BAD_VALUE);
        for (int sprite = 0; sprite < 20; sprite++) {
            run.due("addSprite(0, " + sprite + ", " + (31 - sprite) + ")", sprite);
        }
        run.refused("addSprite(0, 0, 0)", FULL).refused("addSprite(0, -8, 0)", BAD_VALUE);
        run.refused("addSprite(0, 0, 32)", BAD_VALUE).refused("addSprite(1, 0, 0)", UNKNOWN);
        run.refused("addSprite(1, 32, 0)", UNKNOWN).refused("addSprite(-1, 0, -8)", UNKNOWN);
    }

    // ---- Promise 10

    @Holds(at = "Promise 10", words = "Moves a sprite.")
    static void move(Check check) {
        Run run = new Run(check).parts("1.x7", "2.x7").with("addSprite(0, 0, 0)",
                "addSprite(1, 5, 5)", "set(1, 1, 1)", "set(1, 2, 2)", "move(1, -7, 31)");
        int[] due = {1, 1, 2, 1, -7, 31};
        int[] other = {0, 0, 0, 1, 0, 0};
        for (int what = 0; what < 6; what++) {
            run.due("sprite(1, " + what + ")", due[what]).due("sprite(0, " + what + ")", other[what]);
        }
        run.due("color(31, 0)", 34).due("color(5, 12)", 0).due("color(0, 0)", 1);
    }

    @Holds(at = "Promise 10", words = "This is an act.")
    static void moveIsAnAct(Check check) {
        Run run = new Run(check).with("addPart()", "addSprite(0, 0, 0)", "addSprite(0, 4, 4)");
        run.change("move(1, 31, -7)").act("move(1, 4, 4)").times(5, "next(1)");
        run.change("move(0, 0, 1)").change("move(0, 1, 0)").act("move(0, 0, 0)");
    }

    @Holds(at = "Promise 10", words = "`sprite`: a sprite")
    static void moveSprite(Check check) {
        new Run(check).with("addPart()").refused("move(0, 0, 0)", UNKNOWN);
        new Run(check).with("addPart()").times(3, "addSprite(0, 0, 0)")
                .range("move(%, 3, 3)", 0, 2, UNKNOWN);
        new Run(check).with("addPart()").times(20, "addSprite(0, 0, 0)").taken("move(19, 3, 3)")
                .refused("move(20, 3, 3)", UNKNOWN);
    }

    @Holds(at = "Promise 10", words = "`x`: -7 to 31")
    static void moveX(Check check) {
        Run run = new Run(check).with("addPart()", "addSprite(0, 3, 3)");
        run.range("move(0, %, 0)", -7, 31, BAD_VALUE).range("move(0, %, 31)", -7, 31, BAD_VALUE);
        for (int x = -7; x <= 31; x++) {
            run.behind("move(0, " + x + ", 3)", "sprite(0, 4)", x);
        }
    }

    @Holds(at = "Promise 10", words = "`y`: -7 to 31")
    static void moveY(Check check) {
        Run run = new Run(check).with("addPart()", "addSprite(0, 3, 3)");
        run.range("move(0, 0, %)", -7, 31, BAD_VALUE).range("move(0, -7, %)", -7, 31, BAD_VALUE);
        for (int y = -7; y <= 31; y++) {
            run.behind("move(0, 3, " + y + ")", "sprite(0, 5)", y);
        }
    }

    @Holds(at = "Promise 10", words = "Returns how many lines of the screen it covers then (also if"
            + " it is off); UNKNOWN; BAD_VALUE.")
    static void moveAnswers(Check check) {
        Run run = new Run(check).with("addPart()", "addSprite(0, 0, 0)", "addSprite(0, 0, 0)",
                "set(1, 3, 0)", "setLimit(1)");
        for (int y = -7; y <= 31; y++) {
            int due = y < 0 ? y + 8 : y > 24 ? 32 - y : 8;
            run.due("move(0, 0, " + y + ")", due).due("move(1, -7, " + y + ")", due);
        }
        int[][] values = {{0, -1, 2}, {-7, -8, 32}, {31, -8, 32}};
        new Run(check).with("addPart()", "addSprite(0, 0, 0)", "addSprite(0, 0, 0)").combinations(
                "move(%, %, %)", values, UNKNOWN, BAD_VALUE, BAD_VALUE);
    }

    // ---- Promise 11

    @Holds(at = "Promise 11", words = "Sets a property of a sprite.")
    static void set(Check check) {
        int[] values = {2, 3, 1, 0};
        for (int set = 0; set < 4; set++) {
            Run run = new Run(check).times(3, "addPart()").times(3, "addSprite(1, 5, 6)");
            run.with("set(1, " + set + ", " + values[set] + ")");
            int[] due = {1, 0, 0, 1, 5, 6};
            for (int what = 0; what < 6; what++) {
                run.due("sprite(0, " + what + ")", due[what]).due("sprite(2, " + what + ")", due[what]);
                run.due("sprite(1, " + what + ")", what == set ? values[set] : due[what]);
            }
        }
    }

    @Holds(at = "Promise 11", words = "This is an act.")
    static void setIsAnAct(Check check) {
        Run run = new Run(check).times(2, "addPart()").times(2, "addSprite(0, 5, 6)");
        for (int round = 0; round < 2; round++) {
            run.change("set(1, 0, 1)").change("set(1, 1, 1)").change("set(1, 2, 1)");
            run.change("set(1, 3, 0)").act("set(1, 0, 0)").act("set(1, 1, 0)");
            run.act("set(1, 2, 0)").act("set(1, 3, 1)").times(5, "next(1)");
        }
    }

    @Holds(at = "Promise 11", words = "`sprite`: a sprite")
    static void setSprite(Check check) {
        new Run(check).with("addPart()").refused("set(0, 3, 1)", UNKNOWN);
        new Run(check).with("addPart()").times(3, "addSprite(0, 0, 0)")
                .range("set(%, 3, 0)", 0, 2, UNKNOWN);
        new Run(check).with("addPart()").times(20, "addSprite(0, 0, 0)").taken("set(19, 1, 3)")
                .refused("set(20, 1, 3)", UNKNOWN);
    }

    @Holds(at = "Promise 11", words = "0 for its part, 1 for how it is mirrored (0 to 3), 2 for its"
            + " palette (0 to 3), 3 for whether it is on (1, otherwise 0)")
    static void setWhat(Check check) {
        Run run = new Run(check).times(2, "addPart()").with("addSprite(0, 0, 0)");
        run.range("set(0, %, 0)", 0, 3, BAD_VALUE).range("set(0, %, 1)", 0, 3, BAD_VALUE);
        // What can be asked of a sprite beyond these can't be set.
        for (int what = 4; what <= 9; what++) {
            run.refused("set(0, " + what + ", 0)", BAD_VALUE);
            run.refused("set(0, " + what + ", 3)", BAD_VALUE);
        }
        for (int what = 0; what < 4; what++) {
            int other = what == 3 ? 0 : 1;
            run.behind("set(0, " + what + ", " + other + ")", "sprite(0, " + what + ")", other);
        }
    }

    @Holds(at = "Promise 11", words = "1 for how it is mirrored (0 to 3)")
    static void setMirrored(Check check) {
        Run run = new Run(check).with("addPart()", "addSprite(0, 0, 0)");
        run.range("set(0, 1, %)", 0, 3, BAD_VALUE);
        for (int way = 0; way < 4; way++) {
            run.behind("set(0, 1, " + way + ")", "sprite(0, 1)", way);
        }
    }

    @Holds(at = "Promise 11", words = "2 for its palette (0 to 3)")
    static void setPalette(Check check) {
        Run run = new Run(check).with("addPart()", "addSprite(0, 0, 0)");
        run.range("set(0, 2, %)", 0, 3, BAD_VALUE);
        for (int palette = 0; palette < 4; palette++) {
            run.behind("set(0, 2, " + palette + ")", "sprite(0, 2)", palette);
        }
    }

    @Holds(at = "Promise 11", words = "3 for whether it is on (1, otherwise 0)")
    static void setOn(Check check) {
        Run run = new Run(check).with("addPart()", "addSprite(0, 0, 0)");
        run.range("set(0, 3, %)", 0, 1, BAD_VALUE);
        run.behind("set(0, 3, 0)", "sprite(0, 3)", 0).behind("set(0, 3, 1)", "sprite(0, 3)", 1);
    }

    @Holds(at = "Promise 11", words = "`value`: the new value")
    static void setValue(Check check) {
        // The parts that there are: one, some, all.
        new Run(check).with("addPart()", "addSprite(0, 0, 0)").range("set(0, 0, %)", 0, 0, BAD_VALUE);
        new Run(check).times(3, "addPart()").with("addSprite(0, 0, 0)")
                .range("set(0, 0, %)", 0, 2, BAD_VALUE);
        Run all = new Run(check).times(24, "addPart()").with("addSprite(0, 0, 0)");
        all.taken("set(0, 0, 23)").refused("set(0, 0, 24)", BAD_VALUE);
        for (int part = 0; part < 24; part++) {
            all.behind("set(0, 0, " + part + ")", "sprite(0, 0)", part);
        }
    }

    @Holds(at = "Promise 11", words = "Returns the previous value; UNKNOWN for the sprite; BAD_VALUE,"
            + " also if there is no such part.")
    static void setAnswers(Check check) {
        Run run = new Run(check).times(2, "addPart()").with("addSprite(1, 0, 0)");
        run.due("set(0, 0, 0)", 1).due("set(0, 0, 1)", 0).due("set(0, 0, 1)", 1);
        run.due("set(0, 1, 3)", 0).due("set(0, 1, 2)", 3).due("set(0, 1, 2)", 2);
        run.due("set(0, 2, 3)", 0).due("set(0, 2, 1)", 3).due("set(0, 2, 0)", 1);
        run.due("set(0, 3, 1)", 1).due("set(0, 3, 0)", 1).due("set(0, 3, 0)", 0);
        run.due("set(0, 3, 1)", 0).refused("set(0, 0, 2)", BAD_VALUE);
        int[][] values = {{0, -1, 1}, {0, -1, 4}, {1, -1, 4}};
        run.combinations("set(%, %, %)", values, UNKNOWN, BAD_VALUE, BAD_VALUE);
        run.refused("set(1, 0, 2)", UNKNOWN);
    }

    // ---- Promise 12

    @Holds(at = "Promise 12", words = "Sets the swap of lines.")
    static void swap(Check check) {
        Run run = new Run(check).due("swap(3, 5, 2, 1)", 3).due("swap(5, 6, 0, 3)", 4);
        for (int line = 0; line < 32; line++) {
            boolean first = line == 3 || line == 4;
            boolean second = line == 5 || line == 6;
            run.due("line(" + line + ", 3)", first ? 1 : second ? 0 : NONE);
            run.due("line(" + line + ", 4)", first ? 2 : second ? 3 : NONE);
        }
        run.due("swap(0, 31, 0, 0)", 0);
    }

    @Holds(at = "Promise 12", words = "This is an act.")
    static void swapIsAnAct(Check check) {
        Run run = new Run(check).change("swap(0, 0, 0, 1)").act("swap(0, 0, 2, 2)");
        run.with("swap(4, 9, 1, 2)").change("swap(9, 9, 3, 3)").change("swap(31, 31, 0, 3)");
        run.act("swap(4, 9, 2, 1)").times(5, "next(1)").change("swap(0, 31, 0, 3)");
    }

    @Holds(at = "Promise 12", words = "`from`: a line")
    static void swapFrom(Check check) {
        Run run = new Run(check).range("swap(%, 31, 0, 1)", 0, 31, UNKNOWN);
        for (int line = 0; line < 32; line++) {
            run.behind("swap(" + line + ", 31, 0, 1)", "count(5)", 32 - line);
        }
    }

    @Holds(at = "Promise 12", words = "`to`: a line, not before the first one")
    static void swapTo(Check check) {
        Run run = new Run(check).range("swap(0, %, 0, 1)", 0, 31, UNKNOWN);
        for (int line = 0; line < 32; line++) {
            run.behind("swap(0, " + line + ", 0, 1)", "count(5)", line + 1);
            run.taken("swap(" + line + ", " + line + ", 0, 1)");
            if (line > 0) {
                run.refused("swap(" + line + ", " + (line - 1) + ", 0, 1)", BAD_VALUE);
                run.refused("swap(" + line + ", 0, 0, 1)", BAD_VALUE);
            }
        }
        run.refused("swap(31, 32, 0, 1)", UNKNOWN).refused("swap(31, -1, 0, 1)", UNKNOWN);
    }

    @Holds(at = "Promise 12", words = "`one`: a palette")
    static void swapOne(Check check) {
        new Run(check).range("swap(0, 0, %, 0)", 0, 3, UNKNOWN).range("swap(31, 31, %, 3)", 0, 3,
                UNKNOWN);
    }

    @Holds(at = "Promise 12", words = "`other`: a palette; the same one for no swap")
    static void swapOther(Check check) {
        Run run = new Run(check).range("swap(0, 0, 0, %)", 0, 3, UNKNOWN);
        run.range("swap(31, 31, 3, %)", 0, 3, UNKNOWN).with("swap(2, 4, 0, 3)");
        for (int palette = 0; palette < 4; palette++) {
            Run none = run.copy().due("swap(3, 3, " + palette + ", " + palette + ")", 2);
            none.due("line(3, 3)", NONE).due("line(3, 4)", NONE).due("line(2, 3)", 0);
            none.due("line(4, 4)", 3);
        }
    }

    @Holds(at = "Promise 12", words = "Returns the number of lines with a swap then; UNKNOWN for"
            + " lines and palettes; BAD_VALUE if the lines are the wrong way round.")
    static void swapAnswers(Check check) {
        new Run(check).due("swap(0, 0, 1, 1)", 0).due("swap(0, 0, 1, 2)", 1)
                .due("swap(31, 31, 1, 0)", 2).due("swap(0, 0, 3, 2)", 2).due("swap(4, 7, 0, 1)", 6)
                .due("swap(6, 9, 2, 3)", 8).due("swap(0, 30, 2, 2)", 1).due("swap(0, 31, 0, 1)", 32)
                .due("undo()", 4).due("swap(0, 0, 0, 1)", 2).due("swap(0, 31, 3, 3)", 0);
        int[][] values = {{4, -1, 32}, {4, -1, 32}, {0, -1, 4}, {3, -1, 4}};
        new Run(check).combinations("swap(%, %, %, %)", values, UNKNOWN, UNKNOWN, UNKNOWN, UNKNOWN);
        // The wrong way round: only if lines and palettes are known.
        int[] palettes = {0, -1, 4};
        new Run(check).refused("swap(5, 4, 0, 0)", BAD_VALUE).refused("swap(31, 0, 1, 2)", BAD_VALUE);
        for (int one : palettes) {
            for (int other : palettes) {
                boolean known = one == 0 && other == 0;
                new Run(check).refused("swap(5, 4, " + one + ", " + other + ")",
                        known ? BAD_VALUE : UNKNOWN);
            }
        }
        new Run(check).refused("swap(32, 4, 0, 1)", UNKNOWN).refused("swap(5, -1, 0, 1)", UNKNOWN);
    }

    // ---- Promise 22

    @Holds(at = "Promise 22", words = "`line`: a line")
    static void colorLine(Check check) {
        Run run = new Run(check).range("color(%, 0)", 0, 31, UNKNOWN);
        run.parts(Scenes.FILLED).with("addSprite(0, 0, 0)", "addSprite(0, 0, 24)");
        for (int line = 0; line < 32; line++) {
            run.due("color(" + line + ", 0)", line < 8 || line >= 24 ? 1 : 0);
        }
    }

    @Holds(at = "Promise 22", words = "`column`: 0 to 31")
    static void colorColumn(Check check) {
        Run run = new Run(check).range("color(0, %)", 0, 31, UNKNOWN);
        run.parts(Scenes.FILLED).with("addSprite(0, 0, 0)", "addSprite(0, 24, 0)");
        for (int column = 0; column < 32; column++) {
            run.due("color(0, " + column + ")", column < 8 || column >= 24 ? 1 : 0);
        }
    }

    @Holds(at = "Promise 22", words = "Returns the color there in the present frame; UNKNOWN for"
            + " both.")
    static void colorAnswers(Check check) {
        int[][] values = {{31, -1, 32}, {31, -1, 32}};
        new Run(check).combinations("color(%, %)", values, UNKNOWN, UNKNOWN);
        Run run = new Run(check).parts("1.x7", "2.x7").with("addSprite(0, 0, 0)",
                "addSprite(1, 0, 0)", "setLimit(1)", "setStride(1)");
        for (int frame = 0; frame < 6; frame++) {
            run.due("color(0, 0)", frame % 2 + 1).with("next(1)");
        }
        run.with("undo()").due("color(0, 0)", 2);
    }

    // ---- Promise 23

    @Holds(at = "Promise 23", words = "`sprite`: a sprite")
    static void spriteSprite(Check check) {
        for (int what = 0; what < 9; what++) {
            new Run(check).with("addPart()").refused("sprite(0, " + what + ")", UNKNOWN);
            new Run(check).with("addPart()").times(3, "addSprite(0, 0, 0)")
                    .range("sprite(%, " + what + ")", 0, 2, UNKNOWN);
        }
        new Run(check).with("addPart()").times(20, "addSprite(0, 0, 0)").taken("sprite(19, 0)")
                .refused("sprite(20, 0)", UNKNOWN);
    }

    @Holds(at = "Promise 23", words = "0 to 3 as for set(), 4 for x, 5 for y")
    static void spriteWhat(Check check) {
        Run run = new Run(check).with("addPart()", "addSprite(0, 4, 5)");
        run.range("sprite(0, %)", 0, 8, BAD_VALUE);
        run.with("addPart()", "set(0, 0, 1)").due("sprite(0, 0)", 1).with("set(0, 1, 3)");
        run.due("sprite(0, 1)", 3).with("set(0, 2, 2)").due("sprite(0, 2)", 2);
        run.due("sprite(0, 3)", 1).with("set(0, 3, 0)").due("sprite(0, 3)", 0);
        for (int place = -7; place <= 31; place++) {
            run.with("move(0, " + place + ", " + (24 - place) + ")").due("sprite(0, 4)", place);
            run.due("sprite(0, 5)", 24 - place);
        }
    }

    @Holds(at = "Promise 23", words = "6 for the lines that show it in the present frame")
    static void spriteLinesThatShowIt(Check check) {
        Run run = new Run(check).parts("").times(2, "addSprite(0, 0, 10)").due("sprite(0, 6)", 8);
        // A sprite without any pixel is shown too.
        run.due("sprite(1, 6)", 8).with("setLimit(1)").due("sprite(0, 6)", 8).due("sprite(1, 6)", 0);
        run.with("move(1, 0, 13)").due("sprite(1, 6)", 3).with("setStride(1)", "next(1)");
        run.due("sprite(1, 6)", 8).due("sprite(0, 6)", 3).with("set(1, 3, 0)").due("sprite(1, 6)", 0);
        run.due("sprite(0, 6)", 8).with("move(0, 0, -7)").due("sprite(0, 6)", 1);
        run.with("move(0, 0, 31)").due("sprite(0, 6)", 1).with("move(0, 0, 24)");
        run.due("sprite(0, 6)", 8).with("move(0, 0, 25)").due("sprite(0, 6)", 7);
    }

    @Holds(at = "Promise 23", words = "7 for the lines of the screen that it covers")
    static void spriteLinesThatItCovers(Check check) {
        Run run = new Run(check).with("addPart()").times(2, "addSprite(0, 0, 0)");
        run.with("setLimit(1)", "set(0, 3, 0)");
        for (int y = -7; y <= 31; y++) {
            int due = y < 0 ? y + 8 : y > 24 ? 32 - y : 8;
            run.with("move(0, 31, " + y + ")", "move(1, -7, " + y + ")");
            run.due("sprite(0, 7)", due).due("sprite(1, 7)", due);
        }
    }

    @Holds(at = "Promise 23", words = "8 for the number of sprites that it meets")
    static void spriteMeetings(Check check) {
        Run run = new Run(check).parts(Scenes.FILLED).with("addSprite(0, 0, 0)").due("sprite(0, 8)", 0);
        run.with("setLimit(20)");
        for (int others = 1; others < 20; others++) {
            run.with("addSprite(0, 0, 0)").due("sprite(0, 8)", others).due("sprite(" + others
                    + ", 8)", others);
        }
        run.with("set(19, 3, 0)").due("sprite(0, 8)", 18).due("sprite(19, 8)", 0);
        run.with("setLimit(2)").due("sprite(0, 8)", 1).due("sprite(1, 8)", 1);
        run.due("sprite(2, 8)", 0).with("move(1, 8, 0)").due("sprite(0, 8)", 0);
        run.with("move(1, 7, 0)").due("sprite(0, 8)", 1).with("move(1, 7, 7)");
        // On the lines 0 to 6 the sprites 0 and 2 are shown, on the line 7 the sprites 0 and 1.
        run.due("sprite(0, 8)", 2).due("sprite(2, 8)", 1).due("sprite(1, 8)", 1);
    }

    @Holds(at = "Promise 23", words = "Returns the property; UNKNOWN; BAD_VALUE.")
    static void spriteAnswers(Check check) {
        Run run = new Run(check).times(24, "addPart()").with("addSprite(23, -7, 31)",
                "addSprite(0, 0, 0)", "set(0, 1, 3)", "set(0, 2, 2)", "set(1, 3, 0)");
        int[] due = {23, 3, 2, 1, -7, 31, 1, 1, 0};
        for (int what = 0; what < 9; what++) {
            run.due("sprite(0, " + what + ")", due[what]);
        }
        int[][] values = {{1, -1, 2}, {8, -1, 9}};
        new Run(check).with("addPart()").times(2, "addSprite(0, 0, 0)").combinations("sprite(%, %)",
                values, UNKNOWN, BAD_VALUE);
    }
}
