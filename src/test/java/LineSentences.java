/** The sentences on lines, flicker, meeting and weights: the terms, and promises 13 to 15. */
final class LineSentences implements Errors {
    private LineSentences() {
    }

    // ---- Terms: Lines and flicker

    @Holds(at = "Terms",
            words = "A line can show at most a limit of sprites (1 to 20, at first 4)")
    static void limitOfALine(Check check) {
        Run run = Run.stack(check, 4, 0, 0).shows(0, 0, 1, 2, 3).due("count(3)", 0);
        run.with("addSprite(0, 0, 0)").shows(0, 0, 1, 2, 3).due("count(3)", 8).due("count(9)", 4);
        run.range("setLimit(%)", 1, 20, BAD_VALUE);
        Run crowd = Run.stack(check, 20, 0, 0);
        for (int limit = 1; limit <= 20; limit++) {
            int[] shown = new int[limit];
            for (int sprite = 0; sprite < limit; sprite++) {
                shown[sprite] = sprite;
            }
            crowd.copy().with("setLimit(" + limit + ")").shows(7, shown);
        }
    }

    @Holds(at = "Terms", words = "of the sprites that are on and cover it, the first ones in an order"
            + " of turns.")
    static void firstOnesThatAreOnAndCover(Check check) {
        Run run = Run.stack(check, 7, 0, 8).with("set(0, 3, 0)", "move(2, 0, 0)", "move(3, 31, 12)");
        // A sprite that is off or somewhere else takes no place; where in the line one is, is free.
        run.with("setLimit(3)").shows(8, 1, 4, 5).shows(12, 1, 3, 4).shows(16, 3).shows(7, 2);
        run.shows(20).shows(0, 2);
        run.with("setStride(1)", "next(5)").shows(8, 5, 6, 1).shows(12, 5, 6, 1).shows(7, 2);
        run.with("next(1)").shows(8, 6, 1, 4).with("set(1, 3, 0)").shows(8, 6, 4, 5);
    }

    @Holds(at = "Terms", words = "The order of turns in the frame n begins with the sprite (n * s)"
            + " mod k, where k is the number of sprites and s the stride")
    static void orderBegins(Check check) {
        for (int sprites : new int[] {1, 2, 3, 7, 19, 20}) {
            for (int stride : new int[] {0, 1, 2, 6, 7, 18, 19}) {
                Run run = Run.stack(check, sprites, 0, 0).with("setLimit(1)", "setStride(" + stride + ")");
                run.due("shown(0, 0)", 0);
                for (int frame = 1; frame <= 22; frame++) {
                    run.with("next(1)").due("shown(0, 0)", frame * stride % sprites);
                }
            }
        }
        // n * s is 19000000 at most.
        Run late = Run.stack(check, 7, 0, 0).with("setStride(19)").times(10, "next(100000)");
        late.due("shown(0, 0)", 19000000 % 7).due("shown(0, 1)", (19000000 + 1) % 7);
        // k counts all sprites, also those that are off or not on the line.
        Run some = Run.stack(check, 5, 0, 0).with("set(4, 3, 0)", "move(3, 0, 20)", "setStride(4)");
        some.with("next(1)").shows(0, 0, 1, 2).with("next(1)").shows(0, 0, 1, 2);
        some.with("next(1)").shows(0, 2, 0, 1).with("next(1)").shows(0, 1, 2, 0);
        some.with("set(0, 3, 0)", "next(1)").shows(0, 1, 2).with("addSprite(0, 0, 0)");
        // With six sprites, 5 * 4 mod 6 is 2.
        some.shows(0, 2, 5, 1);
    }

    @Holds(at = "Terms", words = "s the stride (0 to 19, at first 0)")
    static void strideOfTheOrder(Check check) {
        Run run = Run.stack(check, 20, 0, 0).with("setLimit(1)").due("count(10)", 0).with("next(1)");
        run.range("setStride(%)", 0, 19, BAD_VALUE).due("shown(0, 0)", 0);
        for (int stride = 0; stride <= 19; stride++) {
            run.behind("setStride(" + stride + ")", "shown(0, 0)", stride);
        }
    }

    @Holds(at = "Terms", words = "and goes on by ascending numbers, round and round.")
    static void goesRound(Check check) {
        for (int sprites : new int[] {1, 2, 5, 20}) {
            Run run = Run.stack(check, sprites, 0, 0).with("setLimit(20)", "setStride(1)");
            for (int first = 0; first < sprites; first++) {
                int[] shown = new int[sprites];
                for (int place = 0; place < sprites; place++) {
                    shown[place] = (first + place) % sprites;
                }
                run.copy().shows(0, shown);
                run.with("next(1)");
            }
            // Behind the last sprite the first one has its turn again.
            run.due("shown(0, 0)", 0);
        }
        Run limited = Run.stack(check, 6, 0, 0).with("setStride(5)", "next(1)").shows(0, 5, 0, 1, 2);
        limited.with("next(1)").shows(0, 4, 5, 0, 1).with("setLimit(2)").shows(0, 4, 5);
    }

    @Holds(at = "Terms", words = "Frames are numbered from 0, and the present one is told.")
    static void framesFrom0(Check check) {
        Run run = new Run(check).due("count(8)", 0).due("keep(0)", 0).due("next(1)", 1);
        run.due("count(8)", 1).due("keep(1)", 1).due("next(100000)", 100001);
        run.due("count(8)", 100001).due("restore(0)", 0).due("count(8)", 0).due("undo()", 2);
        run.due("count(8)", 100001).due("restore(1)", 1).due("count(8)", 1);
        Run last = new Run(check).times(10, "next(100000)").due("count(8)", 1000000);
        last.due("keep(0)", 1000000).refused("next(1)", NOT_POSSIBLE).due("count(8)", 1000000);
    }

    @Holds(at = "Terms", words = "The color of a pixel of the screen is that of the first sprite, by"
            + " ascending numbers, of those that the line shows, whose pixel there is not 0")
    static void colorOfTheFirst(Check check) {
        Run run = new Run(check).parts("1..1.x4", ".2222...", "333333..");
        run.with("addSprite(0, 0, 0)", "addSprite(1, 0, 0)", "addSprite(2, 0, 0)");
        run.colors(0, 0, "122123..").with("setStride(1)", "next(2)").due("shown(0, 0)", 2);
        // By numbers, not by turns.
        run.colors(0, 0, "122123..").with("setLimit(2)").shows(0, 2, 0).colors(0, 0, "133133..");
        run.with("next(2)").shows(0, 1, 2).colors(0, 0, "322223..").with("set(1, 3, 0)");
        run.shows(0, 2, 0).colors(0, 0, "133133..").with("set(0, 3, 0)").colors(0, 0, "333333..");
        run.with("move(2, 0, 1)").colors(0, 0, "......").colors(1, 0, "333333");
    }

    @Holds(at = "Terms", words = "(also if the color of this pixel is 0)")
    static void colorIs0(Check check) {
        Run run = new Run(check).parts("12.x6", "3x8").with("addSprite(0, 0, 0)",
                "addSprite(1, 0, 0)").colors(0, 0, "12333333");
        run.with("setColor(0, 1, 0)").colors(0, 0, ".2333333").due("line(0, 2)", 7);
        run.with("setColor(0, 2, 0)", "setColor(0, 3, 0)").colors(0, 0, "........");
        run.due("line(0, 2)", 0).due("meet(0, 1)", 1).with("setColor(0, 3, 7)", "swap(0, 0, 0, 1)");
        run.due("color(0, 0)", 17).with("setColor(1, 1, 0)").due("color(0, 0)", 0);
    }

    @Holds(at = "Terms", words = "it is 0 if there is none.")
    static void colorOfNone(Check check) {
        new Run(check).due("color(0, 0)", 0).due("color(31, 31)", 0);
        Run run = new Run(check).parts("1.x7").with("addSprite(0, 10, 10)").due("color(10, 10)", 1);
        run.due("color(10, 11)", 0).due("color(10, 9)", 0).due("color(9, 10)", 0);
        run.due("color(11, 10)", 0).due("color(17, 17)", 0).with("set(0, 3, 0)");
        run.due("color(10, 10)", 0);
    }

    // ---- Terms: Meeting, Shares

    @Holds(at = "Terms", words = "Two sprites meet in the present frame if there is a pixel of the"
            + " screen at which both have a pixel that is not 0, on a line that shows both.")
    static void meeting(Check check) {
        // One pixel each, in opposite corners of the part.
        Run run = new Run(check).parts("1.x7", ".x8/.x8/.x8/.x8/.x8/.x8/.x8/.x73");
        run.with("addSprite(0, 20, 20)", "addSprite(1, 13, 13)").due("meet(0, 1)", 1);
        for (int x = 12; x <= 14; x++) {
            for (int y = 12; y <= 14; y++) {
                run.with("move(1, " + x + ", " + y + ")").due("meet(0, 1)", x == 13 && y == 13 ? 1 : 0);
            }
        }
        corner(check, 0, 0, 1);
        corner(check, 31, 0, 1);
        corner(check, 0, 31, 1);
        corner(check, 31, 31, 1);
        // Both have a pixel at the same place beyond the screen.
        corner(check, -1, 0, 0);
        corner(check, 0, -1, 0);
        corner(check, -7, -7, 0);
        Run right = new Run(check).parts(".x71").times(2, "addSprite(0, 24, 0)").due("meet(0, 1)", 1);
        right.with("move(0, 25, 0)", "move(1, 25, 0)").due("meet(0, 1)", 0);
        Run below = new Run(check).parts("", ".x8/.x8/.x8/.x8/.x8/.x8/.x8/1.x7");
        below.times(2, "addSprite(1, 0, 24)").due("meet(0, 1)", 1);
        below.with("move(0, 0, 25)", "move(1, 0, 25)").due("meet(0, 1)", 0);
    }

    /** Two sprites with a pixel in their upper left corner, at the same place. */
    private static void corner(Check check, int x, int y, int due) {
        new Run(check).parts("1.x7").times(2, "addSprite(0, " + x + ", " + y + ")").due("meet(0, 1)",
                due);
    }

    @Holds(at = "Terms", words = "on a line that shows both.")
    static void meetingOnLinesThatShowBoth(Check check) {
        Run run = Run.stack(check, 3, 0, 0).with("move(2, 0, 4)", "setLimit(2)").due("meet(0, 1)", 1);
        run.due("meet(0, 2)", 0).due("meet(1, 2)", 0).with("setStride(1)", "next(1)");
        run.due("meet(1, 2)", 1).due("meet(0, 2)", 0).due("meet(0, 1)", 1).with("setLimit(1)");
        run.due("meet(0, 1)", 0).due("count(6)", 0).with("setLimit(3)").due("count(6)", 3);
        run.with("set(1, 3, 0)").due("meet(0, 1)", 0).due("meet(0, 2)", 1).due("count(6)", 1);
        // Mirrored pixels meet where they are seen.
        Run mirrored = new Run(check).parts("1.x7").times(2, "addSprite(0, 0, 0)");
        mirrored.with("set(1, 1, 1)").due("meet(0, 1)", 0).with("move(0, 7, 0)").due("meet(0, 1)", 1);
        mirrored.with("set(1, 1, 3)").due("meet(0, 1)", 0).with("move(0, 7, 7)").due("meet(0, 1)", 1);
    }

    @Holds(at = "Terms", words = "The weight of a line is the sum of the shares of the parts of the"
            + " sprites that it shows, added as floats by ascending numbers of the sprites, beginning"
            + " with 0.")
    static void weightOfALine(Check check) {
        new Run(check).due("weight(0)", 0).due("weight(31)", 0);
        Run run = new Run(check).parts("1.x7", "11.x6", "1111.x4", "");
        run.with("addSprite(0, 31, 0)", "addSprite(1, -7, 4)", "addSprite(2, 0, 6)");
        double[] due = {1, 1, 1, 1, 3, 3, 7, 7, 6, 6, 6, 6, 4, 4, 0};
        for (int line = 0; line < due.length; line++) {
            run.due("weight(" + line + ")", due[line] / 64);
        }
        run.with("addSprite(0, 0, 6)", "addSprite(0, 0, 6)", "addSprite(2, 0, 6)");
        run.due("weight(6)", 8 / 64.0).with("setStride(1)", "next(3)").due("weight(6)", 7 / 64.0);
        run.with("set(0, 3, 0)").due("weight(6)", 8 / 64.0).with("setLimit(1)");
        run.due("weight(6)", 1 / 64.0).with("set(3, 0, 3)").due("weight(6)", 0);
        Run crowd = Run.stack(check, 20, 31, 31).with("setLimit(20)").due("weight(31)", 20);
        crowd.due("weight(30)", 0).with("setPixel(0, 7, 7, 0)").due("weight(31)", 20 * 63 / 64.0);
    }

    // ---- Promises 13 to 15

    @Holds(at = "Promise 13", words = "Sets the limit of all lines.")
    static void setLimit(Check check) {
        Run run = Run.stack(check, 3, 0, 0);
        for (int other = 0; other < 9; other++) {
            run.with("addSprite(0, 0, " + (8 + 8 * (other % 3)) + ")");
        }
        run.with("setLimit(2)").due("count(9)", 2).due("count(3)", 32);
        for (int line = 0; line < 32; line++) {
            run.due("line(" + line + ", 1)", 2);
        }
    }

    @Holds(at = "Promise 13", words = "This is an act.")
    static void setLimitIsAnAct(Check check) {
        new Run(check).change("setLimit(1)").act("setLimit(4)").change("setLimit(20)")
                .times(5, "next(1)").change("setLimit(5)").act("setLimit(4)");
    }

    @Holds(at = "Promise 13", words = "`limit`: 1 to 20")
    static void setLimitLimit(Check check) {
        Run run = new Run(check).range("setLimit(%)", 1, 20, BAD_VALUE);
        for (int limit = 1; limit <= 20; limit++) {
            run.behind("setLimit(" + limit + ")", "count(9)", limit);
        }
    }

    @Holds(at = "Promise 13", words = "Returns the previous one; BAD_VALUE.")
    static void setLimitAnswers(Check check) {
        Run run = new Run(check).due("setLimit(20)", 4).due("setLimit(1)", 20);
        run.due("setLimit(1)", 1).refused("setLimit(0)", BAD_VALUE).refused("setLimit(21)", BAD_VALUE);
        run.refused("setLimit(-1)", BAD_VALUE).due("setLimit(7)", 1).due("undo()", 3);
        run.due("setLimit(7)", 1);
    }

    @Holds(at = "Promise 14", words = "Sets the stride.")
    static void setStride(Check check) {
        Run run = Run.stack(check, 5, 0, 0).with("setLimit(1)", "setStride(3)", "next(1)");
        run.due("count(10)", 3).due("shown(0, 0)", 3).with("next(1)").due("shown(0, 0)", 1);
        // The order follows from the frame's number, not from what went before.
        run.with("setStride(4)").due("shown(0, 0)", 3).with("setStride(0)").due("shown(0, 0)", 0);
    }

    @Holds(at = "Promise 14", words = "This is an act.")
    static void setStrideIsAnAct(Check check) {
        new Run(check).change("setStride(1)").act("setStride(0)").change("setStride(19)")
                .times(5, "next(1)").change("setStride(5)").act("setStride(0)");
    }

    @Holds(at = "Promise 14", words = "`stride`: 0 to 19")
    static void setStrideStride(Check check) {
        Run run = new Run(check).range("setStride(%)", 0, 19, BAD_VALUE);
        for (int stride = 0; stride <= 19; stride++) {
            run.behind("setStride(" + stride + ")", "count(10)", stride);
        }
    }

    @Holds(at = "Promise 14", words = "Returns the previous one; BAD_VALUE.")
    static void setStrideAnswers(Check check) {
        Run run = new Run(check).due("setStride(19)", 0).due("setStride(1)", 19);
        run.due("setStride(1)", 1).refused("setStride(-1)", BAD_VALUE);
        run.refused("setStride(20)", BAD_VALUE).due("setStride(0)", 1).due("undo()", 3);
        run.due("setStride(7)", 1);
    }

    @Holds(at = "Promise 15", words = "Lets frames go by.")
    static void next(Check check) {
        Run run = Run.stack(check, 3, 0, 0).with("setLimit(1)", "setStride(1)").due("shown(0, 0)", 0);
        run.with("next(2)").due("count(8)", 2).due("shown(0, 0)", 2).with("next(2)");
        run.due("count(8)", 4).due("shown(0, 0)", 1).with("next(99999)").due("count(8)", 100003);
        run.due("shown(0, 0)", 100003 % 3);
    }

    @Holds(at = "Promise 15", words = "This is an act.")
    static void nextIsAnAct(Check check) {
        new Run(check).change("next(1)").change("next(100000)").times(5, "next(3)")
                .change("next(1)");
        // So many frames at once are one act.
        new Run(check).due("next(50)", 50).due("count(12)", 1).due("undo()", 0).due("count(8)", 0);
    }

    @Holds(at = "Promise 15", words = "`frames`: 1 to 100000")
    static void nextFrames(Check check) {
        Run run = new Run(check).range("next(%)", 1, 100000, BAD_VALUE);
        for (int frames : new int[] {1, 2, 255, 256, 32768, 65536, 99999, 100000}) {
            run.behind("next(" + frames + ")", "count(8)", frames);
        }
    }

    @Holds(at = "Promise 15", words = "Returns the frame then; BAD_VALUE; NOT_POSSIBLE if it would be"
            + " above 1000000.")
    static void nextAnswers(Check check) {
        Run run = new Run(check);
        for (int frame = 100000; frame < 1000000; frame += 100000) {
            run.due("next(100000)", frame);
        }
        run.copy().due("next(100000)", 1000000).refused("next(1)", NOT_POSSIBLE)
                .refused("next(100000)", NOT_POSSIBLE).refused("next(100001)", BAD_VALUE)
                .refused("next(0)", BAD_VALUE).refused("next(-1)", BAD_VALUE)
                .refused("next(2147483647)", BAD_VALUE).due("undo()", 4).due("count(8)", 900000);
        run.due("next(1)", 900001).refused("next(100000)", NOT_POSSIBLE);
        run.due("next(99998)", 999999).refused("next(2)", NOT_POSSIBLE);
        run.refused("next(100001)", BAD_VALUE).due("next(1)", 1000000);
        run.refused("next(1)", NOT_POSSIBLE).due("count(8)", 1000000).due("count(12)", 5);
    }
}
