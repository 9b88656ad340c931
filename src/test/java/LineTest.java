/** The promises 24 to 28: lines, weights, the order of turns, meeting, when a line shows again. */
public final class LineTest {
    private static final Check CHECK = new Check();

    public static void main(String[] args) {
        line();
        lineErrors();
        lineColors();
        weight();
        weightOfTheShown();
        turns();
        turnsOfTheCovering();
        shownErrors();
        meet();
        meetOnlyWhereShown();
        meetOnTheScreen();
        meetErrors();
        shownIn();
        shownInLongTurns();
        shownInAtTheEnd();
        shownInErrors();
        CHECK.end("LineTest");
    }

    private static void line() {
        SpriteLines x = Scenes.stack(6, 0, 10);
        x.move(5, 0, 11);
        x.set(4, 3, 0);
        int[][] due = {{9, 0, 0}, {10, 4, 4}, {11, 5, 4}, {17, 5, 4}, {18, 1, 1}, {19, 0, 0}};
        for (int[] d : due) {
            CHECK.due("line(" + d[0] + ", 0)", x.line(d[0], 0), d[1]);
            CHECK.due("line(" + d[0] + ", 1)", x.line(d[0], 1), d[2]);
        }
        x.setLimit(2);
        CHECK.due("covering with a limit", x.line(11, 0), 5);
        CHECK.due("shown with a limit", x.line(11, 1), 2);
        x.move(0, 0, -7);
        x.move(1, 0, 31);
        CHECK.due("line(0, 0)", x.line(0, 0), 1);
        CHECK.due("line(1, 0)", x.line(1, 0), 0);
        CHECK.due("line(31, 0)", x.line(31, 0), 1);
        CHECK.due("line(30, 0)", x.line(30, 0), 0);
    }

    private static void lineErrors() {
        SpriteLines x = Scenes.stack(1, 0, 0);
        for (int what = 0; what < 5; what++) {
            CHECK.due("line(-1, " + what + ")", x.line(-1, what), SpriteLines.UNKNOWN);
            CHECK.due("line(32, " + what + ")", x.line(32, what), SpriteLines.UNKNOWN);
        }
        CHECK.due("line before what", x.line(32, 5), SpriteLines.UNKNOWN);
        for (int wrong : new int[] {-1, 5, Integer.MAX_VALUE, Integer.MIN_VALUE}) {
            CHECK.due("line(0, " + wrong + ")", x.line(0, wrong), SpriteLines.BAD_VALUE);
        }
    }

    private static void lineColors() {
        SpriteLines x = Scenes.parts("1x8/12.31.x3", "2x8");
        x.addSprite(0, 3, 0);
        x.addSprite(1, 7, 0);
        x.addSprite(1, 30, 0);
        CHECK.due("line(0, 2)", x.line(0, 2), 14);
        CHECK.due("line(1, 2)", x.line(1, 2), 4);
        CHECK.due("line(2, 2)", x.line(2, 2), 0);
        x.setColor(0, 1, 0);
        CHECK.due("color 0 in front", x.line(0, 2), 6);
        CHECK.due("line(1, 2) then", x.line(1, 2), 2);
        x.swap(0, 0, 0, 1);
        CHECK.due("another palette", x.line(0, 2), 14);
        x.setLimit(1);
        CHECK.due("only the first one", x.line(0, 2), 8);
    }

    private static void weight() {
        SpriteLines x = Scenes.parts("1x8/1x8/1x8/1x8/1x8/1x8/1x8/1x8", "1.x7", "");
        x.addSprite(0, -7, 0);
        x.addSprite(1, 0, 4);
        x.addSprite(2, 0, 0);
        CHECK.due("weight(0)", x.weight(0), 1);
        CHECK.due("weight(4)", x.weight(4), 1.015625);
        CHECK.due("weight(8)", x.weight(8), 0.015625);
        CHECK.due("weight(12)", x.weight(12), 0);
        CHECK.due("weight(-1)", x.weight(-1), 0);
        CHECK.due("weight(32)", x.weight(32), 0);
        CHECK.due("nothing recorded", x.count(12), 5);
    }

    private static void weightOfTheShown() {
        SpriteLines x = Scenes.parts("1x8", "1x8/2x8", "1x8/2x8/3x8");
        for (int sprite = 0; sprite < 3; sprite++) {
            x.addSprite(sprite, 0, 24);
        }
        CHECK.due("all", x.weight(31), 48 / 64.0);
        x.setLimit(2);
        CHECK.due("0 and 1", x.weight(31), 24 / 64.0);
        x.setStride(1);
        x.next(1);
        CHECK.due("1 and 2", x.weight(31), 40 / 64.0);
        x.next(1);
        CHECK.due("2 and 0", x.weight(31), 32 / 64.0);
        x.set(2, 3, 0);
        CHECK.due("2 is off", x.weight(31), 24 / 64.0);
    }

    private static void turns() {
        for (int sprites = 1; sprites <= 20; sprites += 3) {
            for (int stride = 0; stride < 20; stride++) {
                SpriteLines x = Scenes.stack(sprites, 0, 0);
                x.setLimit(3);
                x.setStride(stride);
                for (int frame = 1; frame < 5; frame++) {
                    x.next(frame * 7);
                    order(x, sprites);
                }
            }
        }
    }

    private static void order(SpriteLines x, int sprites) {
        int first = x.count(8) * x.count(10) % sprites;
        for (int place = 0; place < 5; place++) {
            int due = place < 3 && place < sprites ? (first + place) % sprites : SpriteLines.NONE;
            CHECK.due("shown(7, " + place + ") of " + sprites, x.shown(7, place), due);
        }
    }

    /** The order begins with a sprite of all, also if it is off or somewhere else. */
    private static void turnsOfTheCovering() {
        SpriteLines x = Scenes.stack(5, 0, 0);
        x.set(3, 3, 0);
        x.move(1, 0, 8);
        x.setStride(3);
        x.setLimit(2);
        int[][] due = {{0, 2}, {4, 0}, {2, 4}, {4, 0}, {2, 4}, {0, 2}};
        for (int frame = 0; frame < due.length; frame++) {
            for (int place = 0; place < 2; place++) {
                CHECK.due("frame " + frame + ", place " + place, x.shown(3, place),
                        due[frame][place]);
            }
            CHECK.due("place 2", x.shown(3, 2), SpriteLines.NONE);
            CHECK.due("another line", x.shown(8, 0), 1);
            x.next(1);
        }
        CHECK.due("frames then", x.count(8), 6);
        for (int i = 0; i < 9; i++) {
            x.next(100000);
        }
        x.setStride(19);
        x.next(99994);
        // 1000000 * 19 mod 5 is 0.
        CHECK.due("frame 1000000", x.shown(3, 0), 0);
        x.undo();
        x.next(99993);
        // 999999 * 19 mod 5 is 1.
        CHECK.due("frame 999999", x.shown(3, 0), 2);
    }

    private static void shownErrors() {
        SpriteLines x = Scenes.stack(2, 0, 0);
        CHECK.due("shown(-1, 0)", x.shown(-1, 0), SpriteLines.UNKNOWN);
        CHECK.due("shown(32, 0)", x.shown(32, 0), SpriteLines.UNKNOWN);
        CHECK.due("line before place", x.shown(32, -1), SpriteLines.UNKNOWN);
        CHECK.due("shown(0, -1)", x.shown(0, -1), SpriteLines.BAD_VALUE);
        CHECK.due("shown(31, -1)", x.shown(31, -1), SpriteLines.BAD_VALUE);
        CHECK.due("shown(0, 1)", x.shown(0, 1), 1);
        for (int place : new int[] {2, 19, 20, 21, 32, Integer.MAX_VALUE}) {
            CHECK.due("shown(0, " + place + ")", x.shown(0, place), SpriteLines.NONE);
        }
    }

    private static void meet() {
        SpriteLines x = Scenes.parts("..1.x5/2.x61", "..3.x5");
        x.addSprite(0, 10, 10);
        x.addSprite(1, 10, 10);
        CHECK.due("meet(0, 1)", x.meet(0, 1), 1);
        CHECK.due("meet(1, 0)", x.meet(1, 0), 1);
        x.move(1, 11, 10);
        CHECK.due("side by side", x.meet(0, 1), 0);
        x.move(1, 8, 11);
        CHECK.due("with another pixel", x.meet(0, 1), 1);
        x.move(1, 15, 11);
        CHECK.due("with the last pixel", x.meet(0, 1), 1);
        x.move(1, 15, 10);
        CHECK.due("one line above", x.meet(0, 1), 0);
        x.set(0, 1, 1);
        x.move(1, 13, 10);
        CHECK.due("mirrored in x", x.meet(0, 1), 1);
        x.set(0, 1, 2);
        CHECK.due("mirrored in y", x.meet(0, 1), 0);
        x.move(1, 10, 17);
        CHECK.due("mirrored in y, below", x.meet(0, 1), 1);
        x.set(0, 1, 3);
        x.set(1, 1, 1);
        CHECK.due("both mirrored", x.meet(0, 1), 1);
        x.set(1, 3, 0);
        CHECK.due("one is off", x.meet(0, 1), 0);
        x.set(1, 3, 1);
        // Pixels meet by what they are, not by the colors.
        for (int pixel = 1; pixel < 4; pixel++) {
            x.setColor(0, pixel, 0);
        }
        CHECK.due("without colors", x.meet(0, 1), 1);
    }

    private static void meetOnlyWhereShown() {
        SpriteLines x = Scenes.stack(3, 0, 0);
        x.setLimit(2);
        x.move(2, 0, 4);
        CHECK.due("meet(0, 1)", x.meet(0, 1), 1);
        CHECK.due("meet(0, 2)", x.meet(0, 2), 0);
        CHECK.due("meet(2, 1)", x.meet(2, 1), 0);
        x.setStride(1);
        x.next(1);
        CHECK.due("frame 1: meet(1, 2)", x.meet(1, 2), 1);
        CHECK.due("frame 1: meet(0, 2)", x.meet(0, 2), 0);
        CHECK.due("frame 1: meet(0, 1)", x.meet(0, 1), 1);
        x.next(1);
        CHECK.due("frame 2: meet(2, 0)", x.meet(2, 0), 1);
        CHECK.due("frame 2: pairs", x.count(6), 2);
        x.setLimit(1);
        CHECK.due("limit 1: pairs", x.count(6), 0);
        // On the lines 8 to 11 the sprite 2 is alone, above its line 4 it is not there.
        x.setLimit(20);
        CHECK.due("all shown: pairs", x.count(6), 3);
    }

    private static void meetOnTheScreen() {
        SpriteLines x = Scenes.parts("1.x7", "1x8/.x8/.x8/.x8/.x8/.x8/.x8/.x8");
        x.addSprite(0, -1, 0);
        x.addSprite(1, -4, 0);
        CHECK.due("left of the screen", x.meet(0, 1), 0);
        x.move(0, 0, 0);
        CHECK.due("on the screen", x.meet(0, 1), 1);
        x.move(0, 31, 0);
        x.move(1, 24, 0);
        CHECK.due("last column", x.meet(0, 1), 1);
        x.set(0, 1, 1);
        CHECK.due("right of the screen", x.meet(0, 1), 0);
        x.move(1, 31, 0);
        CHECK.due("both right of the screen", x.meet(0, 1), 0);
        x.set(0, 1, 0);
        x.move(0, 5, -1);
        x.move(1, 5, -1);
        CHECK.due("above the screen", x.meet(0, 1), 0);
        x.set(0, 1, 2);
        x.set(1, 1, 2);
        x.move(0, 5, 25);
        x.move(1, 5, 25);
        CHECK.due("below the screen", x.meet(0, 1), 0);
        x.move(0, 5, 24);
        x.move(1, 5, 24);
        CHECK.due("last line", x.meet(0, 1), 1);
        x.move(1, 0, 0);
        x.set(0, 1, 1);
        x.set(1, 1, 0);
        for (int left = -7; left < 0; left++) {
            x.move(0, left, 0);
            CHECK.due("last pixel in column " + (left + 7), x.meet(0, 1), 1);
        }
        x.move(0, -7, 1);
        CHECK.due("on another line", x.meet(0, 1), 0);
        SpriteLines y = Scenes.stack(2, -7, -7);
        CHECK.due("one pixel of the screen", y.meet(0, 1), 1);
        y.move(0, 31, 31);
        CHECK.due("other corners", y.meet(0, 1), 0);
        y.move(1, 31, 31);
        CHECK.due("the last pixel of the screen", y.meet(0, 1), 1);
    }

    private static void meetErrors() {
        SpriteLines x = Scenes.stack(2, 0, 0);
        CHECK.due("meet(0, 2)", x.meet(0, 2), SpriteLines.UNKNOWN);
        CHECK.due("meet(2, 0)", x.meet(2, 0), SpriteLines.UNKNOWN);
        CHECK.due("meet(-1, 0)", x.meet(-1, 0), SpriteLines.UNKNOWN);
        CHECK.due("meet(0, -1)", x.meet(0, -1), SpriteLines.UNKNOWN);
        CHECK.due("unknown before the same", x.meet(2, 2), SpriteLines.UNKNOWN);
        CHECK.due("unknown before the same", x.meet(-1, -1), SpriteLines.UNKNOWN);
        CHECK.due("meet(1, 1)", x.meet(1, 1), SpriteLines.BAD_VALUE);
        x.set(0, 3, 0);
        CHECK.due("meet(0, 0), off", x.meet(0, 0), SpriteLines.BAD_VALUE);
    }

    private static void shownIn() {
        SpriteLines x = Scenes.stack(5, 0, 20);
        x.setLimit(2);
        int[] still = {0, 0, SpriteLines.NONE, SpriteLines.NONE, SpriteLines.NONE};
        int[] byOne = {0, 0, 1, 2, 3};
        int[] byTwo = {0, 0, 1, 1, 2};
        int[] byTwoThen = {1, 2, 0, 0, 1};
        for (int sprite = 0; sprite < 5; sprite++) {
            x.setStride(0);
            CHECK.due("still, " + sprite, x.shownIn(20, sprite), still[sprite]);
            x.setStride(1);
            CHECK.due("by one, " + sprite, x.shownIn(27, sprite), byOne[sprite]);
            x.setStride(2);
            CHECK.due("by two, " + sprite, x.shownIn(25, sprite), byTwo[sprite]);
            x.next(1);
            CHECK.due("by two in frame 1, " + sprite, x.shownIn(25, sprite), byTwoThen[sprite]);
            x.undo();
            CHECK.due("not on line 19", x.shownIn(19, sprite), SpriteLines.NONE);
            CHECK.due("not on line 28", x.shownIn(28, sprite), SpriteLines.NONE);
        }
        CHECK.due("the frame stays", x.count(8), 0);
        x.set(0, 3, 0);
        CHECK.due("one that is off", x.shownIn(20, 0), SpriteLines.NONE);
        CHECK.due("the next one", x.shownIn(20, 2), 0);
    }

    private static void shownInLongTurns() {
        SpriteLines x = Scenes.stack(20, 0, 0);
        x.setLimit(1);
        x.setStride(1);
        CHECK.due("in 19 frames", x.shownIn(0, 19), 19);
        x.setStride(19);
        CHECK.due("in 19 frames", x.shownIn(0, 1), 19);
        CHECK.due("now", x.shownIn(0, 0), 0);
        x.setStride(2);
        CHECK.due("never an odd one", x.shownIn(0, 1), SpriteLines.NONE);
        CHECK.due("in 9 frames", x.shownIn(0, 18), 9);
        x.setStride(3);
        x.next(1);
        CHECK.due("from the frame 1 on", x.shownIn(0, 0), 19);
        CHECK.due("from the frame 1 on", x.shownIn(0, 3), 0);
        CHECK.due("from the frame 1 on", x.shownIn(0, 6), 1);
    }

    /** The document tells no end of the frames for a look ahead. */
    private static void shownInAtTheEnd() {
        SpriteLines x = Scenes.stack(3, 0, 0);
        x.setLimit(1);
        x.setStride(1);
        for (int i = 0; i < 10; i++) {
            x.next(100000);
        }
        CHECK.due("frame", x.count(8), 1000000);
        CHECK.due("shownIn(0, 1)", x.shownIn(0, 1), 0);
        CHECK.due("shownIn(0, 2)", x.shownIn(0, 2), 1);
        CHECK.due("shownIn(0, 0)", x.shownIn(0, 0), 2);
    }

    private static void shownInErrors() {
        SpriteLines x = Scenes.stack(2, 0, 0);
        CHECK.due("shownIn(-1, 0)", x.shownIn(-1, 0), SpriteLines.UNKNOWN);
        CHECK.due("shownIn(32, 0)", x.shownIn(32, 0), SpriteLines.UNKNOWN);
        CHECK.due("shownIn(0, 2)", x.shownIn(0, 2), SpriteLines.UNKNOWN);
        CHECK.due("shownIn(0, -1)", x.shownIn(0, -1), SpriteLines.UNKNOWN);
        CHECK.due("shownIn(31, 1)", x.shownIn(31, 1), SpriteLines.NONE);
    }
}
