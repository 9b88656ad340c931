/** The sentences on what is asked of lines, meetings and the whole: promises 24 to 29. */
final class AskedSentences implements Errors {
    private AskedSentences() {
    }

    // ---- Promise 24

    @Holds(at = "Promise 24", words = "`line`: a line")
    static void lineLine(Check check) {
        Run run = new Run(check).with("swap(0, 31, 0, 1)");
        for (int what = 0; what < 5; what++) {
            run.range("line(%, " + what + ")", 0, 31, UNKNOWN);
        }
        Run ends = Run.stack(check, 1, 0, -7).with("addSprite(0, 0, 31)");
        for (int line = 0; line < 32; line++) {
            ends.due("line(" + line + ", 1)", line == 0 || line == 31 ? 1 : 0);
        }
    }

    @Holds(at = "Promise 24", words = "0 for the sprites that are on and cover it")
    static void lineCovering(Check check) {
        Run run = Run.stack(check, 20, 0, 24).due("line(31, 0)", 20).due("line(24, 0)", 20);
        run.due("line(23, 0)", 0).with("set(19, 3, 0)").due("line(31, 0)", 19);
        run.with("move(0, 0, 25)").due("line(24, 0)", 18).due("line(25, 0)", 19);
        run.with("move(0, 0, -7)").due("line(0, 0)", 1).due("line(1, 0)", 0).with("setLimit(1)");
        run.due("line(24, 0)", 18);
        // Beyond the columns of the screen is covered too, if a part of the sprite is on it.
        new Run(check).parts("1.x7").with("addSprite(0, -7, 0)").due("line(0, 0)", 1);
    }

    @Holds(at = "Promise 24", words = "1 for those that it shows")
    static void lineShowing(Check check) {
        for (int sprites = 0; sprites <= 20; sprites++) {
            Run run = Run.stack(check, sprites, 0, 0).due("line(0, 1)", Math.min(sprites, 4));
            run.with("setLimit(1)").due("line(7, 1)", Math.min(sprites, 1)).with("setLimit(20)");
            run.due("line(7, 1)", sprites).due("line(8, 1)", 0).with("setLimit(19)");
            run.due("line(0, 1)", Math.min(sprites, 19));
        }
    }

    @Holds(at = "Promise 24", words = "2 for the pixels with a color other than 0")
    static void lineColored(Check check) {
        Run run = new Run(check).parts("1x8", "2.x62").with("setLimit(20)").due("line(0, 2)", 0);
        for (int sprite = 0; sprite < 4; sprite++) {
            run.with("addSprite(0, " + 8 * sprite + ", 0)").due("line(0, 2)", 8 * sprite + 8);
        }
        run.due("line(1, 2)", 0).with("setColor(0, 1, 0)").due("line(0, 2)", 0);
        run.with("swap(0, 0, 0, 3)").due("line(0, 2)", 32).with("setLimit(3)").due("line(0, 2)", 24);
        Run edges = new Run(check).parts("2.x62").with("addSprite(0, -7, 0)", "addSprite(0, 31, 0)");
        edges.due("line(0, 2)", 2).with("move(0, -6, 0)").due("line(0, 2)", 2);
        edges.with("move(1, 24, 0)").due("line(0, 2)", 3).with("setColor(0, 2, 63)");
        edges.due("line(0, 2)", 3).with("set(0, 3, 0)").due("line(0, 2)", 2);
    }

    @Holds(at = "Promise 24", words = "3 and 4 for the palettes of its swap, the lower one first (NONE"
            + " if it has none)")
    static void lineSwap(Check check) {
        for (int one = 0; one < 4; one++) {
            for (int other = 0; other < 4; other++) {
                Run run = new Run(check).with("swap(31, 31, " + one + ", " + other + ")");
                boolean none = one == other;
                run.due("line(31, 3)", none ? NONE : Math.min(one, other));
                run.due("line(31, 4)", none ? NONE : Math.max(one, other));
                run.due("line(30, 3)", NONE).due("line(0, 4)", NONE).with("swap(31, 31, 2, 2)");
                run.due("line(31, 3)", NONE).due("line(31, 4)", NONE);
            }
        }
    }

    @Holds(at = "Promise 24", words = "Returns the property; UNKNOWN; BAD_VALUE.")
    static void lineAnswers(Check check) {
        int[][] values = {{31, -1, 32}, {2, -1, 5, 6}};
        new Run(check).combinations("line(%, %)", values, UNKNOWN, BAD_VALUE);
        new Run(check).with("swap(0, 0, 0, 1)").range("line(0, %)", 0, 4, BAD_VALUE);
        new Run(check).refused("line(0, 3)", NONE).refused("line(0, 4)", NONE);
    }

    // ---- Promise 25

    @Holds(at = "Promise 25", words = "`line`: a line")
    static void weightLine(Check check) {
        Run run = Run.stack(check, 1, 0, -7).with("addSprite(0, 0, 31)");
        for (int line = 0; line < 32; line++) {
            run.due("weight(" + line + ")", line == 0 || line == 31 ? 1 : 0);
        }
    }

    @Holds(at = "Promise 25", words = "Returns its weight; 0 if there is no such line.")
    static void weightAnswers(Check check) {
        Run run = new Run(check).parts(Scenes.FILLED, "1.x7").with("setLimit(20)");
        for (int sprite = 0; sprite < 20; sprite++) {
            run.due("weight(0)", sprite / 2 + (sprite + 1) / 2 / 64.0);
            run.with("addSprite(" + (sprite + 1) % 2 + ", 0, 0)");
        }
        run.due("weight(0)", 10 + 10 / 64.0).due("weight(7)", 10 + 10 / 64.0).due("weight(8)", 0);
        Run all = Run.stack(check, 4, 0, 0).times(4, "addSprite(0, 0, 24)");
        for (int line : new int[] {-1, 32, 33, -32, 64, Integer.MIN_VALUE, Integer.MAX_VALUE}) {
            all.due("weight(" + line + ")", 0);
        }
        all.due("weight(0)", 4).due("weight(31)", 4);
    }

    // ---- Promise 26

    @Holds(at = "Promise 26", words = "`line`: a line")
    static void shownLine(Check check) {
        Run run = new Run(check).parts(Scenes.FILLED).with("setLimit(1)");
        for (int line = 0; line < 32; line += 8) {
            run.with("addSprite(0, 0, " + line + ")");
        }
        run.range("shown(%, 0)", 0, 31, UNKNOWN);
        for (int line = 0; line < 32; line++) {
            run.due("shown(" + line + ", 0)", line / 8);
        }
        // Without any sprite too.
        new Run(check).refused("shown(-1, 0)", UNKNOWN).refused("shown(32, 0)", UNKNOWN)
                .refused("shown(0, 0)", NONE).refused("shown(31, 0)", NONE);
    }

    @Holds(at = "Promise 26",
            words = "`place`: a place among the sprites that it shows, in the order of turns, from 0")
    static void shownPlace(Check check) {
        Run run = Run.stack(check, 20, 0, 0).with("setLimit(20)", "setStride(7)", "next(1)");
        for (int place = 0; place < 20; place++) {
            run.due("shown(0, " + place + ")", (place + 7) % 20);
        }
        run.refused("shown(0, 20)", NONE).refused("shown(0, -1)", BAD_VALUE);
        run.with("setLimit(1)").due("shown(0, 0)", 7).refused("shown(0, 1)", NONE);
        run.with("set(7, 3, 0)").due("shown(0, 0)", 8);
    }

    @Holds(at = "Promise 26", words = "Returns the sprite; UNKNOWN; BAD_VALUE if place is negative;"
            + " NONE if there are not so many.")
    static void shownAnswers(Check check) {
        Run run = Run.stack(check, 3, 0, 0);
        int[][] values = {{7, -1, 32}, {0, -1, Integer.MIN_VALUE}};
        run.combinations("shown(%, %)", values, UNKNOWN, BAD_VALUE);
        run.due("shown(0, 2)", 2);
        for (int place : new int[] {3, 4, 19, 20, 21, 31, 32, 255, 256, Integer.MAX_VALUE}) {
            run.refused("shown(0, " + place + ")", NONE);
            run.refused("shown(32, " + place + ")", UNKNOWN);
        }
        for (int shown = 0; shown <= 5; shown++) {
            Run some = Run.stack(check, shown, 0, 0);
            some.refused("shown(0, " + Math.min(shown, 4) + ")", NONE).refused("shown(8, 0)", NONE);
            some.refused("shown(0, -1)", BAD_VALUE).refused("shown(8, -1)", BAD_VALUE);
        }
    }

    // ---- Promise 27

    @Holds(at = "Promise 27", words = "`one`: a sprite")
    static void meetOne(Check check) {
        new Run(check).with("addPart()").refused("meet(0, 1)", UNKNOWN);
        Run.stack(check, 1, 0, 0).refused("meet(1, 0)", UNKNOWN).refused("meet(-1, 0)", UNKNOWN);
        Run run = Run.stack(check, 4, 0, 0).taken("meet(0, 3)").taken("meet(1, 3)").taken("meet(2, 3)");
        for (int sprite : new int[] {-1, 4, 5, 20, Integer.MIN_VALUE, Integer.MAX_VALUE}) {
            run.refused("meet(" + sprite + ", 3)", UNKNOWN);
        }
        Run.stack(check, 20, 0, 0).taken("meet(19, 0)").refused("meet(20, 0)", UNKNOWN);
    }

    @Holds(at = "Promise 27", words = "`other`: another sprite")
    static void meetOther(Check check) {
        Run.stack(check, 1, 0, 0).refused("meet(0, 1)", UNKNOWN).refused("meet(0, -1)", UNKNOWN);
        Run.stack(check, 1, 0, 0).refused("meet(0, 0)", BAD_VALUE);
        Run run = Run.stack(check, 20, 0, 0).taken("meet(0, 19)").refused("meet(0, 20)", UNKNOWN);
        for (int sprite = 0; sprite < 20; sprite++) {
            run.refused("meet(" + sprite + ", " + sprite + ")", BAD_VALUE);
        }
    }

    @Holds(at = "Promise 27", words = "Returns 1 if they meet, otherwise 0; UNKNOWN; BAD_VALUE if"
            + " both are the same.")
    static void meetAnswers(Check check) {
        Run run = Run.stack(check, 3, 10, 10);
        run.due("meet(0, 1)", 1).due("meet(1, 0)", 1).with("move(0, 17, 17)").due("meet(0, 1)", 1);
        run.with("move(0, 18, 17)").due("meet(0, 1)", 0).due("meet(1, 0)", 0);
        run.with("move(0, 17, 18)").due("meet(0, 1)", 0).with("move(0, 3, 3)").due("meet(1, 0)", 1);
        run.with("move(0, 2, 3)").due("meet(1, 0)", 0).due("meet(1, 2)", 1).due("meet(0, 2)", 0);
        int[][] values = {{1, -1, 3}, {2, -1, 3}};
        run.combinations("meet(%, %)", values, UNKNOWN, UNKNOWN);
        for (int same : new int[] {-1, 3, 20, Integer.MIN_VALUE, Integer.MAX_VALUE}) {
            run.refused("meet(" + same + ", " + same + ")", UNKNOWN);
        }
        run.refused("meet(0, 0)", BAD_VALUE).refused("meet(2, 2)", BAD_VALUE);
        run.with("set(2, 3, 0)").refused("meet(2, 2)", BAD_VALUE).due("meet(1, 2)", 0);
    }

    // ---- Promise 28

    @Holds(at = "Promise 28", words = "Tells in how many frames from now on a line shows a sprite for"
            + " the next time, if nothing else happens.")
    static void shownIn(Check check) {
        for (int sprites : new int[] {1, 2, 5, 20}) {
            for (int stride : new int[] {0, 1, 3, 19}) {
                Run run = Run.stack(check, sprites, 0, 0).with("setStride(" + stride + ")", "setLimit(2)");
                run.with("next(4)");
                for (int sprite = 0; sprite < sprites; sprite++) {
                    shownIn(run, sprite);
                }
            }
        }
        // The frame stays, and no state is recorded.
        Run run = Run.stack(check, 9, 0, 0).with("setStride(1)", "setLimit(1)").due("shownIn(0, 8)", 8);
        run.due("count(8)", 0).due("count(12)", 5).due("shown(0, 0)", 0);
    }

    /** Lets the frames go by, one after the other, until the line shows the sprite. */
    private static void shownIn(Run run, int sprite) {
        Run later = run.copy();
        int frames = 0;
        while (frames <= 20 && later.answer("shown(0, 0)") != sprite
                && later.answer("shown(0, 1)") != sprite) {
            later.with("next(1)");
            frames++;
        }
        run.copy().due("shownIn(0, " + sprite + ")", frames <= 20 ? frames : NONE);
    }

    @Holds(at = "Promise 28", words = "`line`: a line")
    static void shownInLine(Check check) {
        Run run = new Run(check).parts(Scenes.FILLED);
        for (int line = 0; line < 32; line += 8) {
            run.with("addSprite(0, 0, " + line + ")");
        }
        run.refused("shownIn(-1, 0)", UNKNOWN).refused("shownIn(32, 0)", UNKNOWN);
        for (int line = 0; line < 32; line++) {
            for (int sprite = 0; sprite < 4; sprite++) {
                run.due("shownIn(" + line + ", " + sprite + ")", sprite == line / 8 ? 0 : NONE);
            }
        }
    }

    @Holds(at = "Promise 28", words = "`sprite`: a sprite")
    static void shownInSprite(Check check) {
        new Run(check).with("addPart()").refused("shownIn(0, 0)", UNKNOWN);
        Run.stack(check, 3, 0, 0).range("shownIn(0, %)", 0, 2, UNKNOWN);
        Run.stack(check, 20, 0, 0).with("setLimit(20)").taken("shownIn(0, 19)")
                .refused("shownIn(0, 20)", UNKNOWN).refused("shownIn(31, 20)", UNKNOWN);
    }

    @Holds(at = "Promise 28",
            words = "Returns the frames, 0 to 20; UNKNOWN; NONE if it does not within 20 frames.")
    static void shownInAnswers(Check check) {
        // With 20 sprites and the limit 1 the order comes to each sprite in 0 to 19 frames.
        Run run = Run.stack(check, 20, 0, 0).with("setLimit(1)", "setStride(1)");
        for (int sprite = 0; sprite < 20; sprite++) {
            run.due("shownIn(7, " + sprite + ")", sprite);
        }
        run.with("setStride(19)").due("shownIn(0, 1)", 19).due("shownIn(0, 0)", 0);
        run.with("setStride(2)").refused("shownIn(0, 1)", NONE).due("shownIn(0, 18)", 9);
        run.with("setStride(0)").refused("shownIn(0, 1)", NONE).due("shownIn(0, 0)", 0);
        run.with("setLimit(2)").due("shownIn(0, 1)", 0).refused("shownIn(0, 2)", NONE);
        run.with("set(1, 3, 0)").refused("shownIn(0, 1)", NONE).refused("shownIn(8, 0)", NONE);
        int[][] values = {{0, -1, 32}, {0, -1, 20}};
        run.combinations("shownIn(%, %)", values, UNKNOWN, UNKNOWN);
        // The frames ahead are looked at also where next() would not go any more.
        Run late = Run.stack(check, 3, 0, 0).with("setLimit(1)", "setStride(1)").times(10, "next(100000)");
        late.due("shownIn(0, 1)", 0).due("shownIn(0, 2)", 1).due("shownIn(0, 0)", 2);
    }

    // ---- Promise 29

    @Holds(at = "Promise 29", words = "0 for the number of parts")
    static void countParts(Check check) {
        Run run = new Run(check).due("count(0)", 0);
        for (int parts = 1; parts <= 24; parts++) {
            run.with("addPart()").due("count(0)", parts);
        }
        run.due("addPart()", FULL).due("count(0)", 24).with("pack(false)").due("count(0)", 1);
        run.with("undo()", "undo()").due("count(0)", 23).with("pack(true)").due("count(0)", 0);
    }

    @Holds(at = "Promise 29", words = "1 for sprites, 2 for sprites that are on")
    static void countSprites(Check check) {
        Run run = new Run(check).with("addPart()").due("count(1)", 0).due("count(2)", 0);
        for (int sprites = 1; sprites <= 20; sprites++) {
            run.with("addSprite(0, 31, 31)").due("count(1)", sprites).due("count(2)", sprites);
        }
        run.due("addSprite(0, 0, 0)", FULL).due("count(1)", 20);
        for (int off = 1; off <= 20; off++) {
            run.with("set(" + (20 - off) + ", 3, 0)").due("count(2)", 20 - off).due("count(1)", 20);
        }
        run.with("set(0, 3, 0)").due("count(2)", 0).with("set(0, 3, 1)").due("count(2)", 1);
    }

    @Holds(at = "Promise 29",
            words = "3 for lines that cannot show all sprites that are on and cover them")
    static void countOverfullLines(Check check) {
        Run run = Run.stack(check, 4, 0, 0).due("count(3)", 0).with("addSprite(0, 0, 3)");
        run.due("count(3)", 5).with("set(0, 3, 0)").due("count(3)", 0).with("set(0, 3, 1)");
        run.with("move(4, 0, 8)").due("count(3)", 0).with("setLimit(3)").due("count(3)", 8);
        run.with("setLimit(5)").due("count(3)", 0).with("move(4, 0, -7)").due("count(3)", 0);
        run.with("setLimit(4)").due("count(3)", 1).with("setLimit(1)").due("count(3)", 8);
        // Sprites that stand side by side take their places as well.
        Run wide = new Run(check).with("addPart()", "setLimit(1)", "addSprite(0, -7, 31)");
        wide.due("count(3)", 0).with("addSprite(0, 31, 31)").due("count(3)", 1);
        Run.stack(check, 20, 0, 24).with("setLimit(19)").due("count(3)", 8).with("setLimit(20)").due(
                "count(3)", 0);
    }

    @Holds(at = "Promise 29",
            words = "4 for the greatest number of sprites that are on and cover a line")
    static void countMostCovering(Check check) {
        Run run = new Run(check).with("addPart()").due("count(4)", 0).with("setLimit(1)");
        for (int sprites = 1; sprites <= 20; sprites++) {
            run.with("addSprite(0, 0, 31)").due("count(4)", sprites);
        }
        run.with("move(0, 0, 23)").due("count(4)", 19).with("set(19, 3, 0)").due("count(4)", 18);
        run.with("move(0, 0, 24)").due("count(4)", 19);
        Run top = new Run(check).with("addPart()", "addSprite(0, 0, -7)", "addSprite(0, 0, -7)");
        top.due("count(4)", 2).with("addSprite(0, 0, 1)").due("count(4)", 2).with("move(2, 0, 0)");
        top.due("count(4)", 3).with("set(0, 3, 0)", "set(1, 3, 0)", "set(2, 3, 0)").due("count(4)", 0);
    }

    @Holds(at = "Promise 29", words = "5 for lines with a swap")
    static void countSwaps(Check check) {
        Run run = new Run(check).due("count(5)", 0);
        for (int line = 0; line < 32; line++) {
            run.with("swap(" + line + ", " + line + ", 3, " + line % 3 + ")").due("count(5)", line + 1);
        }
        run.with("swap(3, 12, 1, 1)").due("count(5)", 22).with("undo()").due("count(5)", 32);
        run.with("swap(0, 31, 0, 0)").due("count(5)", 0);
    }

    @Holds(at = "Promise 29", words = "6 for pairs of sprites that meet")
    static void countPairs(Check check) {
        Run run = new Run(check).parts(Scenes.FILLED).due("count(6)", 0).with("setLimit(20)");
        for (int sprites = 1; sprites <= 20; sprites++) {
            run.with("addSprite(0, 9, 9)").due("count(6)", sprites * (sprites - 1) / 2);
        }
        run.with("set(0, 3, 0)").due("count(6)", 171).with("setLimit(2)").due("count(6)", 1);
        run.with("setLimit(1)").due("count(6)", 0);
        // A chain: each meets the next one only.
        Run chain = new Run(check).parts(Scenes.FILLED).with("setLimit(20)");
        for (int sprite = 0; sprite < 5; sprite++) {
            chain.with("addSprite(0, " + 5 * sprite + ", 0)").due("count(6)", sprite);
        }
        // On different lines pairs meet, each is counted once.
        Run.stack(check, 2, 0, 0).due("count(6)", 1);
    }

    @Holds(at = "Promise 29",
            words = "7 for parts that no sprite shows (whether it is on or off)")
    static void countNotShown(Check check) {
        Run run = new Run(check).due("count(7)", 0).times(24, "addPart()").due("count(7)", 24);
        for (int sprite = 0; sprite < 20; sprite++) {
            run.with("addSprite(" + (23 - sprite) + ", 31, 31)").due("count(7)", 23 - sprite);
        }
        run.with("set(0, 3, 0)").due("count(7)", 4).with("set(0, 0, 22)").due("count(7)", 5);
        run.with("set(0, 0, 0)").due("count(7)", 4).with("setLimit(1)").due("count(7)", 4);
    }

    @Holds(at = "Promise 29", words = "8 for the frame, 9 for the limit, 10 for the stride")
    static void countPlainNumbers(Check check) {
        Run run = new Run(check).due("count(8)", 0).due("count(9)", 4).due("count(10)", 0);
        run.with("next(100000)").due("count(8)", 100000).due("count(9)", 4).due("count(10)", 0);
        run.with("setLimit(20)").due("count(9)", 20).due("count(10)", 0).with("setLimit(1)");
        run.due("count(9)", 1).with("setStride(19)").due("count(10)", 19).due("count(9)", 1);
        run.due("count(8)", 100000).times(9, "next(100000)").due("count(8)", 1000000);
        run.due("next(1)", NOT_POSSIBLE).due("count(8)", 1000000);
    }

    @Holds(at = "Promise 29", words = "11 for the weight of all lines, each cut off to a whole number"
            + " (towards zero) by itself, and added")
    static void countWeights(Check check) {
        new Run(check).due("count(11)", 0);
        Run run = Run.stack(check, 1, 0, 0).due("count(11)", 8).with("setPixel(0, 7, 7, 0)");
        run.due("count(11)", 0).with("addSprite(0, 0, 0)").due("count(11)", 8).with("undo()");
        run.with("undo()", "move(0, 0, -7)").due("count(11)", 1).with("move(0, 0, 31)");
        run.due("count(11)", 1).with("move(0, 0, 24)").due("count(11)", 8);
        // Half a part on two lines each: 1.5 on four lines, 0.5 and 1 on four lines each.
        Run halves = new Run(check).parts(Scenes.FILLED, "1x8/1x8/1x8/1x8").with("addSprite(0, 0, 0)",
                "addSprite(1, 0, 4)").due("count(11)", 8);
        halves.with("addSprite(1, 0, 4)").due("count(11)", 4 + 4 * 2 + 4);
        Run.stack(check, 20, 0, 12).with("setLimit(20)").due("count(11)", 160);
        Run.stack(check, 20, 0, 12).due("count(11)", 32);
        new Run(check).parts("1x8/1x8/1x8/1x8/1x8/1x8/1x8/1x7.").times(4, "addSprite(0, 0, 0)")
                .due("weight(0)", 3.9375).due("count(11)", 24);
    }

    @Holds(at = "Promise 29", words = "12 for the states in the history")
    static void countStates(Check check) {
        Run run = new Run(check).due("count(12)", 0);
        for (int acts = 1; acts <= 9; acts++) {
            run.with("addPart()").due("count(12)", Math.min(acts, 5));
        }
        for (int left = 4; left >= 0; left--) {
            run.with("undo()").due("count(12)", left);
        }
        run.due("undo()", NONE).due("count(12)", 0);
    }

    @Holds(at = "Promise 29", words = "13 for the length of the text")
    static void countLength(Check check) {
        Run run = new Run(check).due("count(13)", 0);
        for (int length = 1; length <= 60; length++) {
            run.with("type('/')").due("count(13)", length);
        }
        run.due("type('/')", FULL).due("count(13)", 60).with("clearText()").due("count(13)", 0);
    }

    @Holds(at = "Promise 29", words = "Returns the number; BAD_VALUE.")
    static void countAnswers(Check check) {
        new Run(check).range("count(%)", 0, 13, BAD_VALUE);
        Run.stack(check, 2, 0, 0).range("count(%)", 0, 13, BAD_VALUE);
    }
}
