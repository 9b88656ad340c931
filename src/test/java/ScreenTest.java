/** The promises 9 to 15, 22 and 23: sprites, swaps, limit, stride, frames, colors. */
public final class ScreenTest {
    private static final Check CHECK = new Check();

    public static void main(String[] args) {
        addSprite();
        addSpriteErrors();
        move();
        set();
        setErrors();
        swap();
        swapErrors();
        setLimit();
        setStride();
        next();
        colorMirrored();
        colorOfTheFirst();
        colorCutOff();
        colorOfPalettes();
        colorErrors();
        sprite();
        CHECK.end("ScreenTest");
    }

    private static void addSprite() {
        SpriteLines x = Scenes.parts("", "1.x7");
        CHECK.due("addSprite(1, -7, 31)", x.addSprite(1, -7, 31), 0);
        CHECK.due("addSprite(0, 31, -7)", x.addSprite(0, 31, -7), 1);
        int[][] due = {{1, 0, 0, 1, -7, 31, 1, 1, 0}, {0, 0, 0, 1, 31, -7, 1, 1, 0}};
        for (int sprite = 0; sprite < 2; sprite++) {
            for (int what = 0; what < 9; what++) {
                CHECK.due("sprite(" + sprite + ", " + what + ")", x.sprite(sprite, what),
                        due[sprite][what]);
            }
        }
        for (int sprite = 2; sprite < 20; sprite++) {
            CHECK.due("addSprite", x.addSprite(0, 0, 0), sprite);
        }
        CHECK.due("sprites", x.count(1), 20);
        CHECK.due("21st", x.addSprite(0, 0, 0), SpriteLines.FULL);
        CHECK.due("undo()", x.undo(), 4);
        CHECK.due("sprites then", x.count(1), 19);
        // A number that is used again comes with a sprite as new.
        x.addSprite(1, 3, 4);
        for (int what = 1; what < 4; what++) {
            x.set(19, what, what == 3 ? 0 : 3);
        }
        for (int i = 0; i < 4; i++) {
            x.undo();
        }
        CHECK.due("addSprite again", x.addSprite(0, 5, 6), 19);
        int[] again = {0, 0, 0, 1, 5, 6};
        for (int what = 0; what < 6; what++) {
            CHECK.due("sprite(19, " + what + ")", x.sprite(19, what), again[what]);
        }
    }

    private static void addSpriteErrors() {
        SpriteLines x = new SpriteLines();
        CHECK.due("no part", x.addSprite(0, 0, 0), SpriteLines.UNKNOWN);
        x.addPart();
        CHECK.due("part 1", x.addSprite(1, 0, 0), SpriteLines.UNKNOWN);
        CHECK.due("part -1", x.addSprite(-1, 0, 0), SpriteLines.UNKNOWN);
        CHECK.due("part before place", x.addSprite(1, 32, -8), SpriteLines.UNKNOWN);
        int[][] wrong = {{-8, 0}, {32, 0}, {0, -8}, {0, 32}, {Integer.MIN_VALUE, 0},
            {0, Integer.MAX_VALUE}};
        for (int[] w : wrong) {
            CHECK.due("wrong place", x.addSprite(0, w[0], w[1]), SpriteLines.BAD_VALUE);
        }
        CHECK.due("states", x.count(12), 1);
        CHECK.due("sprites", x.count(1), 0);
        for (int i = 0; i < 20; i++) {
            x.addSprite(0, 0, 0);
        }
        CHECK.due("full", x.addSprite(0, 0, 0), SpriteLines.FULL);
        CHECK.due("part before full", x.addSprite(1, 0, 0), SpriteLines.UNKNOWN);
        CHECK.due("place before full", x.addSprite(0, 32, 0), SpriteLines.BAD_VALUE);
    }

    private static void move() {
        SpriteLines x = Scenes.stack(2, 0, 0);
        for (int y = -7; y < 32; y++) {
            int due = y < 0 ? 8 + y : y > 24 ? 32 - y : 8;
            CHECK.due("move(0, .., " + y + ")", x.move(0, y, y), due);
            CHECK.due("lines covered", x.sprite(0, 7), due);
            CHECK.due("x", x.sprite(0, 4), y);
            CHECK.due("y", x.sprite(0, 5), y);
        }
        x.set(1, 3, 0);
        CHECK.due("one that is off", x.move(1, 0, 30), 2);
        CHECK.due("the other one stays", x.sprite(0, 5), 31);
        x.undo();
        CHECK.due("undone", x.sprite(1, 5), 0);
        CHECK.due("move(2, ..)", x.move(2, 0, 0), SpriteLines.UNKNOWN);
        CHECK.due("move(-1, ..)", x.move(-1, 0, 0), SpriteLines.UNKNOWN);
        CHECK.due("sprite before place", x.move(2, 32, 32), SpriteLines.UNKNOWN);
        int[][] wrong = {{-8, 0}, {32, 0}, {0, -8}, {0, 32}};
        for (int[] w : wrong) {
            CHECK.due("wrong place", x.move(0, w[0], w[1]), SpriteLines.BAD_VALUE);
        }
        CHECK.due("states", x.count(12), 4);
        CHECK.due("x stays", x.sprite(0, 4), 31);
    }

    private static void set() {
        SpriteLines x = Scenes.parts("", "", "");
        x.addSprite(1, 0, 0);
        x.addSprite(1, 0, 0);
        int[][] values = {{0, 2, 1}, {1, 2, 3, 0, 3}, {3, 2, 1, 0, 2}, {0, 0, 1, 1, 0}};
        int[] before = {1, 0, 0, 1};
        for (int what = 0; what < 4; what++) {
            for (int value : values[what]) {
                CHECK.due("set(1, " + what + ", " + value + ")", x.set(1, what, value), before[what]);
                CHECK.due("sprite(1, " + what + ")", x.sprite(1, what), value);
                CHECK.due("states", x.count(12), 5);
                before[what] = value;
            }
        }
        int[] other = {1, 0, 0, 1};
        for (int what = 0; what < 4; what++) {
            CHECK.due("the other one", x.sprite(0, what), other[what]);
        }
        x.undo();
        CHECK.due("undone", x.sprite(1, 3), 1);
    }

    private static void setErrors() {
        SpriteLines x = Scenes.parts("", "");
        x.addSprite(0, 0, 0);
        int[] firstWrong = {2, 4, 4, 2};
        for (int what = 0; what < 4; what++) {
            CHECK.due("too much", x.set(0, what, firstWrong[what]), SpriteLines.BAD_VALUE);
            CHECK.due("below 0", x.set(0, what, -1), SpriteLines.BAD_VALUE);
            CHECK.due("very much", x.set(0, what, Integer.MAX_VALUE), SpriteLines.BAD_VALUE);
            CHECK.due("no sprite", x.set(1, what, firstWrong[what]), SpriteLines.UNKNOWN);
            CHECK.due("sprite -1", x.set(-1, what, 0), SpriteLines.UNKNOWN);
        }
        for (int what : new int[] {-1, 4, 5, 6, 7, 8, Integer.MAX_VALUE, Integer.MIN_VALUE}) {
            CHECK.due("set(0, " + what + ", 0)", x.set(0, what, 0), SpriteLines.BAD_VALUE);
            CHECK.due("no sprite", x.set(1, what, 0), SpriteLines.UNKNOWN);
        }
        CHECK.due("states", x.count(12), 3);
    }

    private static void swap() {
        SpriteLines x = new SpriteLines();
        CHECK.due("swap(3, 6, 2, 1)", x.swap(3, 6, 2, 1), 4);
        CHECK.due("swap(31, 31, 0, 3)", x.swap(31, 31, 0, 3), 5);
        CHECK.due("swap(0, 0, 3, 0)", x.swap(0, 0, 3, 0), 6);
        CHECK.due("swap(5, 8, 3, 2)", x.swap(5, 8, 3, 2), 8);
        CHECK.due("line(4, 3)", x.line(4, 3), 1);
        CHECK.due("line(4, 4)", x.line(4, 4), 2);
        CHECK.due("line(5, 3)", x.line(5, 3), 2);
        CHECK.due("line(5, 4)", x.line(5, 4), 3);
        CHECK.due("line(0, 3)", x.line(0, 3), 0);
        CHECK.due("line(0, 4)", x.line(0, 4), 3);
        CHECK.due("line(9, 3)", x.line(9, 3), SpriteLines.NONE);
        CHECK.due("line(2, 4)", x.line(2, 4), SpriteLines.NONE);
        CHECK.due("swap(4, 5, 1, 1)", x.swap(4, 5, 1, 1), 6);
        CHECK.due("line(4, 3) then", x.line(4, 3), SpriteLines.NONE);
        CHECK.due("line(5, 4) then", x.line(5, 4), SpriteLines.NONE);
        CHECK.due("swap(0, 31, 3, 3)", x.swap(0, 31, 3, 3), 0);
        CHECK.due("states", x.count(12), 5);
        x.undo();
        CHECK.due("undone", x.count(5), 6);
        CHECK.due("swap(0, 31, 0, 1)", x.swap(0, 31, 0, 1), 32);
        CHECK.due("line(17, 3)", x.line(17, 3), 0);
        CHECK.due("line(17, 4)", x.line(17, 4), 1);
    }

    private static void swapErrors() {
        SpriteLines x = new SpriteLines();
        x.swap(3, 4, 0, 1);
        int[][] unknown = {{-1, 0, 0, 1}, {32, 32, 0, 1}, {0, 32, 0, 1}, {0, -1, 0, 1},
            {0, 0, -1, 1}, {0, 0, 4, 1}, {0, 0, 0, -1}, {0, 0, 0, 4}, {5, 4, 0, 4}, {5, 4, 4, 0},
            {5, -1, 0, 0}, {32, 0, 0, 0}};
        for (int[] u : unknown) {
            CHECK.due("unknown", x.swap(u[0], u[1], u[2], u[3]), SpriteLines.UNKNOWN);
        }
        CHECK.due("wrong way round", x.swap(5, 4, 0, 1), SpriteLines.BAD_VALUE);
        CHECK.due("wrong way round", x.swap(31, 0, 2, 2), SpriteLines.BAD_VALUE);
        CHECK.due("states", x.count(12), 1);
        CHECK.due("swaps", x.count(5), 2);
    }

    private static void setLimit() {
        SpriteLines x = Scenes.stack(20, 0, 0);
        CHECK.due("line(0, 1)", x.line(0, 1), 4);
        int before = 4;
        for (int limit : new int[] {1, 20, 7, 7}) {
            CHECK.due("setLimit(" + limit + ")", x.setLimit(limit), before);
            CHECK.due("line(0, 1)", x.line(0, 1), limit);
            CHECK.due("count(9)", x.count(9), limit);
            before = limit;
        }
        x.undo();
        CHECK.due("undo()", x.undo(), 3);
        CHECK.due("undone", x.count(9), 20);
        for (int wrong : new int[] {0, 21, -1, Integer.MAX_VALUE, Integer.MIN_VALUE}) {
            CHECK.due("setLimit(" + wrong + ")", x.setLimit(wrong), SpriteLines.BAD_VALUE);
        }
        CHECK.due("states", x.count(12), 3);
        CHECK.due("count(9)", x.count(9), 20);
    }

    private static void setStride() {
        SpriteLines x = Scenes.stack(3, 0, 0);
        int before = 0;
        for (int stride : new int[] {19, 0, 2, 2}) {
            CHECK.due("setStride(" + stride + ")", x.setStride(stride), before);
            CHECK.due("count(10)", x.count(10), stride);
            CHECK.due("frame 0 begins with 0", x.shown(0, 0), 0);
            before = stride;
        }
        x.undo();
        x.undo();
        CHECK.due("undone", x.count(10), 0);
        for (int wrong : new int[] {-1, 20, Integer.MAX_VALUE, Integer.MIN_VALUE}) {
            CHECK.due("setStride(" + wrong + ")", x.setStride(wrong), SpriteLines.BAD_VALUE);
        }
        CHECK.due("states", x.count(12), 3);
    }

    private static void next() {
        SpriteLines x = new SpriteLines();
        CHECK.due("next(1)", x.next(1), 1);
        CHECK.due("next(100000)", x.next(100000), 100001);
        CHECK.due("count(8)", x.count(8), 100001);
        for (int wrong : new int[] {0, -1, 100001, Integer.MAX_VALUE, Integer.MIN_VALUE}) {
            CHECK.due("next(" + wrong + ")", x.next(wrong), SpriteLines.BAD_VALUE);
        }
        CHECK.due("states", x.count(12), 2);
        x.undo();
        CHECK.due("undone", x.count(8), 1);
        for (int i = 1; i <= 9; i++) {
            x.next(100000);
        }
        CHECK.due("frame", x.count(8), 900001);
        CHECK.due("one too far", x.next(100000), SpriteLines.NOT_POSSIBLE);
        CHECK.due("wrong before too far", x.next(100001), SpriteLines.BAD_VALUE);
        CHECK.due("to the end", x.next(99999), 1000000);
        CHECK.due("past the end", x.next(1), SpriteLines.NOT_POSSIBLE);
        CHECK.due("wrong at the end", x.next(0), SpriteLines.BAD_VALUE);
        CHECK.due("states", x.count(12), 5);
        CHECK.due("frame", x.count(8), 1000000);
    }

    private static void colorMirrored() {
        for (int way = 0; way < 4; way++) {
            SpriteLines x = Scenes.parts("12.x53/.1.x6/2.x7/.x8/.x8/.x8/.x8/..3.x41");
            x.addSprite(0, 5, 11);
            x.set(0, 1, way);
            for (int row = 0; row < 8; row++) {
                for (int column = 0; column < 8; column++) {
                    int due = x.pixel(0, way >= 2 ? 7 - row : row, way % 2 == 1 ? 7 - column : column);
                    CHECK.due("color", x.color(11 + row, 5 + column), due);
                }
            }
            CHECK.due("left of it", x.color(11, 4), 0);
            CHECK.due("right of it", x.color(11, 13), 0);
            CHECK.due("above it", x.color(10, 5), 0);
            CHECK.due("below it", x.color(19, 5), 0);
        }
    }

    private static void colorOfTheFirst() {
        SpriteLines x = Scenes.parts("11.x6", ".22.x5");
        x.addSprite(1, 0, 0);
        x.addSprite(0, 0, 0);
        x.set(1, 2, 1);
        CHECK.due("only 1 has a pixel", x.color(0, 0), 17);
        CHECK.due("both have one", x.color(0, 1), 2);
        CHECK.due("only 0 has a pixel", x.color(0, 2), 2);
        CHECK.due("none has one", x.color(0, 3), 0);
        x.setColor(0, 2, 0);
        CHECK.due("the first one has the color 0", x.color(0, 1), 0);
        CHECK.due("pixels with a color", x.line(0, 2), 1);
        // The order of turns changes nothing as long as both are shown.
        x.setColor(0, 2, 9);
        x.setStride(1);
        x.next(1);
        CHECK.due("first in turn", x.shown(0, 0), 1);
        CHECK.due("both have one", x.color(0, 1), 9);
        x.setLimit(1);
        CHECK.due("only 1 is shown", x.color(0, 1), 17);
        CHECK.due("only 1 is shown", x.color(0, 2), 0);
        x.set(1, 3, 0);
        CHECK.due("only 0 is on", x.color(0, 1), 9);
    }

    private static void colorCutOff() {
        SpriteLines x = Scenes.parts("1x8/2x8/3x8/1x8/2x8/3x8/1x8/2x8");
        x.addSprite(0, -7, -7);
        CHECK.due("upper left", x.color(0, 0), 2);
        CHECK.due("right of it", x.color(0, 1), 0);
        CHECK.due("below it", x.color(1, 0), 0);
        CHECK.due("columns", x.line(0, 2), 1);
        x.move(0, 31, 31);
        CHECK.due("columns", x.line(31, 2), 1);
        CHECK.due("lower right", x.color(31, 31), 1);
        CHECK.due("left of it", x.color(31, 30), 0);
        CHECK.due("above it", x.color(30, 31), 0);
        CHECK.due("not round the corner", x.color(31, 0), 0);
        CHECK.due("not round the corner", x.color(0, 31), 0);
        x.move(0, 28, -3);
        CHECK.due("columns", x.line(0, 2), 4);
        CHECK.due("row 3", x.color(0, 28), 1);
        CHECK.due("row 5", x.color(2, 31), 3);
        CHECK.due("row 7", x.color(4, 31), 2);
        CHECK.due("below", x.color(5, 31), 0);
    }

    private static void colorOfPalettes() {
        SpriteLines x = Scenes.parts("1.x7/2.x7/3.x7");
        for (int palette = 0; palette < 4; palette++) {
            x.addSprite(0, palette, 0);
            x.set(palette, 2, palette);
        }
        x.swap(1, 1, 1, 3);
        x.swap(2, 2, 2, 0);
        int[][] due = {{1, 17, 33, 49}, {2, 50, 34, 18}, {35, 19, 3, 51}};
        for (int line = 0; line < 3; line++) {
            for (int column = 0; column < 4; column++) {
                CHECK.due("color(" + line + ", " + column + ")", x.color(line, column),
                        due[line][column]);
            }
        }
        x.setColor(3, 2, 63);
        CHECK.due("a color set", x.color(1, 1), 63);
        x.setColor(1, 2, 0);
        CHECK.due("a color 0", x.color(1, 3), 0);
        CHECK.due("pixels with a color", x.line(1, 2), 3);
        // The swap is none of the sprite's own.
        CHECK.due("its palette stays", x.sprite(1, 2), 1);
    }

    private static void colorErrors() {
        SpriteLines x = Scenes.stack(1, 0, 0);
        CHECK.due("color(-1, 0)", x.color(-1, 0), SpriteLines.UNKNOWN);
        CHECK.due("color(32, 0)", x.color(32, 0), SpriteLines.UNKNOWN);
        CHECK.due("color(0, -1)", x.color(0, -1), SpriteLines.UNKNOWN);
        CHECK.due("color(0, 32)", x.color(0, 32), SpriteLines.UNKNOWN);
        CHECK.due("color(0, 0)", x.color(0, 0), 1);
        CHECK.due("color(31, 31)", x.color(31, 31), 0);
    }

    private static void sprite() {
        SpriteLines x = Scenes.stack(3, 2, 28);
        x.move(1, 3, 26);
        x.setLimit(1);
        int[][] due = {{0, 0, 0, 1, 2, 28, 4, 4, 0}, {0, 0, 0, 1, 3, 26, 2, 6, 0},
            {0, 0, 0, 1, 2, 28, 0, 4, 0}};
        for (int sprite = 0; sprite < 3; sprite++) {
            for (int what = 0; what < 9; what++) {
                CHECK.due("sprite(" + sprite + ", " + what + ")", x.sprite(sprite, what),
                        due[sprite][what]);
            }
        }
        x.setLimit(2);
        int[][] meetings = {{4, 1}, {6, 1}, {0, 0}};
        for (int sprite = 0; sprite < 3; sprite++) {
            CHECK.due("lines", x.sprite(sprite, 6), meetings[sprite][0]);
            CHECK.due("meets", x.sprite(sprite, 8), meetings[sprite][1]);
        }
        x.set(0, 3, 0);
        CHECK.due("lines of one that is off", x.sprite(0, 6), 0);
        CHECK.due("it covers", x.sprite(0, 7), 4);
        CHECK.due("it meets", x.sprite(0, 8), 0);
        CHECK.due("sprite(3, 0)", x.sprite(3, 0), SpriteLines.UNKNOWN);
        CHECK.due("sprite(-1, 0)", x.sprite(-1, 0), SpriteLines.UNKNOWN);
        CHECK.due("sprite before what", x.sprite(3, 9), SpriteLines.UNKNOWN);
        for (int wrong : new int[] {-1, 9, Integer.MAX_VALUE, Integer.MIN_VALUE}) {
            CHECK.due("sprite(0, " + wrong + ")", x.sprite(0, wrong), SpriteLines.BAD_VALUE);
        }
    }
}
