/** The promises 1 to 3, 8 and 19 to 21: a new object, parts, pixels, colors, shares, parts alike. */
public final class SheetTest {
    private static final Check CHECK = new Check();

    public static void main(String[] args) {
        newObject();
        addPart();
        setPixel();
        setPixelErrors();
        pixel();
        setColor();
        share();
        alike();
        alikeLowestWay();
        CHECK.end("SheetTest");
    }

    private static void newObject() {
        SpriteLines x = new SpriteLines();
        int[] due = {0, 0, 0, 0, 0, 0, 0, 0, 0, 4, 0, 0, 0, 0};
        for (int what = 0; what < due.length; what++) {
            CHECK.due("new: count(" + what + ")", x.count(what), due[what]);
        }
        for (int line = 0; line < 32; line++) {
            CHECK.due("new: line(l, 0)", x.line(line, 0), 0);
            CHECK.due("new: line(l, 1)", x.line(line, 1), 0);
            CHECK.due("new: line(l, 2)", x.line(line, 2), 0);
            CHECK.due("new: line(l, 3)", x.line(line, 3), SpriteLines.NONE);
            CHECK.due("new: line(l, 4)", x.line(line, 4), SpriteLines.NONE);
            CHECK.due("new: weight(l)", x.weight(line), 0);
            CHECK.due("new: color(l, l)", x.color(line, line), 0);
            CHECK.due("new: shown(l, 0)", x.shown(line, 0), SpriteLines.NONE);
        }
        CHECK.due("new: undo()", x.undo(), SpriteLines.NONE);
        CHECK.due("new: restore(0)", x.restore(0), SpriteLines.NONE);
        CHECK.due("new: restore(1)", x.restore(1), SpriteLines.NONE);
        CHECK.due("new: clearText()", x.clearText(), 0);
        CHECK.due("new: pack(false)", x.pack(false), SpriteLines.NONE);
        CHECK.due("new: pack(true)", x.pack(true), SpriteLines.NONE);
        CHECK.due("new: next(1)", x.next(1), 1);
        CHECK.due("new: setStride(3)", x.setStride(3), 0);
        CHECK.due("new: setLimit(3)", x.setLimit(3), 4);
        // Two objects share nothing.
        SpriteLines other = new SpriteLines();
        CHECK.due("another: count(8)", other.count(8), 0);
        CHECK.due("another: count(9)", other.count(9), 4);
    }

    private static void addPart() {
        SpriteLines x = new SpriteLines();
        for (int part = 0; part < 24; part++) {
            CHECK.due("addPart()", x.addPart(), part);
            CHECK.due("count(0)", x.count(0), part + 1);
        }
        x.next(1);
        CHECK.due("25th addPart()", x.addPart(), SpriteLines.FULL);
        CHECK.due("count(0) when full", x.count(0), 24);
        CHECK.due("pixel of the last part", x.pixel(23, 7, 7), 0);
        CHECK.due("undo() of next", x.undo(), 4);
        CHECK.due("frame then", x.count(8), 0);
        CHECK.due("undo() of addPart", x.undo(), 3);
        CHECK.due("count(0) then", x.count(0), 23);
        // A number that is used again comes with a blank part.
        CHECK.due("addPart() again", x.addPart(), 23);
        x.setPixel(23, 2, 3, 3);
        x.undo();
        x.undo();
        CHECK.due("addPart() once more", x.addPart(), 23);
        CHECK.due("pixel of it", x.pixel(23, 2, 3), 0);
    }

    private static void setPixel() {
        SpriteLines x = Scenes.parts("", "");
        for (int row = 0; row < 8; row++) {
            for (int column = 0; column < 8; column++) {
                CHECK.due("setPixel", x.setPixel(1, row, column, (row * 3 + column) % 4), 0);
            }
        }
        for (int row = 0; row < 8; row++) {
            for (int column = 0; column < 8; column++) {
                CHECK.due("pixel of part 1", x.pixel(1, row, column), (row * 3 + column) % 4);
                CHECK.due("pixel of part 0", x.pixel(0, row, column), 0);
            }
        }
        for (int before = 0; before < 4; before++) {
            for (int after = 0; after < 4; after++) {
                x.setPixel(0, 4, 6, before);
                CHECK.due("setPixel over", x.setPixel(0, 4, 6, after), before);
                CHECK.due("pixel after", x.pixel(0, 4, 6), after);
            }
        }
        // It is an act, also if the pixel stays what it is.
        SpriteLines y = Scenes.parts("");
        y.setPixel(0, 0, 0, 0);
        CHECK.due("states after setPixel", y.count(12), 2);
        y.setPixel(0, 7, 0, 2);
        CHECK.due("undo() of setPixel", y.undo(), 2);
        CHECK.due("pixel then", y.pixel(0, 7, 0), 0);
    }

    private static void setPixelErrors() {
        SpriteLines x = Scenes.parts("");
        CHECK.due("setPixel(1, ..)", x.setPixel(1, 0, 0, 0), SpriteLines.UNKNOWN);
        CHECK.due("setPixel(-1, ..)", x.setPixel(-1, 0, 0, 0), SpriteLines.UNKNOWN);
        CHECK.due("part before row", x.setPixel(1, 8, 9, 4), SpriteLines.UNKNOWN);
        int[][] wrong = {{-1, 0, 0}, {8, 0, 0}, {0, -1, 0}, {0, 8, 0}, {0, 0, -1}, {0, 0, 4},
            {Integer.MAX_VALUE, 0, 0}, {0, Integer.MIN_VALUE, 0}, {0, 0, Integer.MAX_VALUE}};
        for (int[] w : wrong) {
            CHECK.due("setPixel(0, wrong)", x.setPixel(0, w[0], w[1], w[2]), SpriteLines.BAD_VALUE);
        }
        CHECK.due("edges", x.setPixel(0, 7, 7, 3), 0);
        CHECK.due("states", x.count(12), 2);
        CHECK.due("others stay", x.share(0), 1 / 64.0);
    }

    private static void pixel() {
        SpriteLines x = Scenes.parts("..12...3");
        int[] due = {0, 0, 1, 2, 0, 0, 0, 3};
        for (int column = 0; column < 8; column++) {
            CHECK.due("pixel(0, 0, c)", x.pixel(0, 0, column), due[column]);
            CHECK.due("pixel(0, 1, c)", x.pixel(0, 1, column), 0);
        }
        CHECK.due("pixel(1, ..)", x.pixel(1, 0, 0), SpriteLines.UNKNOWN);
        CHECK.due("pixel(-1, ..)", x.pixel(-1, 0, 0), SpriteLines.UNKNOWN);
        CHECK.due("part before row", x.pixel(1, 8, 0), SpriteLines.UNKNOWN);
        CHECK.due("row -1", x.pixel(0, -1, 0), SpriteLines.BAD_VALUE);
        CHECK.due("row 8", x.pixel(0, 8, 0), SpriteLines.BAD_VALUE);
        CHECK.due("column -1", x.pixel(0, 0, -1), SpriteLines.BAD_VALUE);
        CHECK.due("column 8", x.pixel(0, 0, 8), SpriteLines.BAD_VALUE);
        CHECK.due("nothing recorded", x.count(12), 2);
    }

    private static void setColor() {
        SpriteLines x = new SpriteLines();
        for (int palette = 0; palette < 4; palette++) {
            for (int pixel = 1; pixel < 4; pixel++) {
                int first = 16 * palette + pixel;
                CHECK.due("first color", x.setColor(palette, pixel, 63 - first), first);
            }
        }
        for (int palette = 0; palette < 4; palette++) {
            for (int pixel = 1; pixel < 4; pixel++) {
                int before = 63 - 16 * palette - pixel;
                CHECK.due("color set", x.setColor(palette, pixel, 0), before);
                CHECK.due("color 0", x.setColor(palette, pixel, 63), 0);
            }
        }
        CHECK.due("undo()", x.undo(), 4);
        CHECK.due("color undone", x.setColor(3, 3, 5), 0);
        CHECK.due("palette 4", x.setColor(4, 1, 1), SpriteLines.UNKNOWN);
        CHECK.due("palette -1", x.setColor(-1, 1, 1), SpriteLines.UNKNOWN);
        CHECK.due("palette before pixel", x.setColor(4, 0, 64), SpriteLines.UNKNOWN);
        CHECK.due("pixel 0", x.setColor(0, 0, 1), SpriteLines.BAD_VALUE);
        CHECK.due("pixel 4", x.setColor(0, 4, 1), SpriteLines.BAD_VALUE);
        CHECK.due("color -1", x.setColor(0, 1, -1), SpriteLines.BAD_VALUE);
        CHECK.due("color 64", x.setColor(0, 1, 64), SpriteLines.BAD_VALUE);
        // No error records a state: the latest one is still that before the color 5.
        x.undo();
        CHECK.due("color after undo", x.setColor(3, 3, 1), 0);
    }

    private static void share() {
        SpriteLines x = Scenes.parts("", "1x8/2x8/3x8/1x8/1x8/1x8/1x8/1x8", "12.3...1");
        CHECK.due("share of a blank part", x.share(0), 0);
        CHECK.due("share of a full part", x.share(1), 1);
        CHECK.due("share of four pixels", x.share(2), 0.0625);
        x.setPixel(2, 7, 7, 3);
        CHECK.due("share of five pixels", x.share(2), 0.078125);
        CHECK.due("share(3)", x.share(3), 0);
        CHECK.due("share(-1)", x.share(-1), 0);
    }

    private static void alike() {
        String one = "123...../1......./........";
        SpriteLines x = Scenes.parts(one, one, ".....321/.......1",
                ".x8/.x8/.x8/.x8/.x8/.x8/1.x7/123.x5",
                ".x8/.x8/.x8/.x8/.x8/.x8/.x71/.x5321",
                "223...../1.......");
        for (int way = 0; way < 4; way++) {
            CHECK.due("alike(0, " + (way + 1) + ")", x.alike(0, way + 1), way);
            CHECK.due("alike(" + (way + 1) + ", 0)", x.alike(way + 1, 0), way);
        }
        CHECK.due("alike(2, 3)", x.alike(2, 3), 3);
        CHECK.due("alike(2, 4)", x.alike(2, 4), 2);
        CHECK.due("alike(4, 3)", x.alike(4, 3), 1);
        CHECK.due("alike(4, 4)", x.alike(4, 4), 0);
        // One pixel with another color is enough.
        CHECK.due("alike(0, 5)", x.alike(0, 5), SpriteLines.NONE);
        CHECK.due("alike(5, 2)", x.alike(5, 2), SpriteLines.NONE);
        CHECK.due("alike(0, 6)", x.alike(0, 6), SpriteLines.UNKNOWN);
        CHECK.due("alike(6, 0)", x.alike(6, 0), SpriteLines.UNKNOWN);
        CHECK.due("alike(-1, 0)", x.alike(-1, 0), SpriteLines.UNKNOWN);
        CHECK.due("alike(0, -1)", x.alike(0, -1), SpriteLines.UNKNOWN);
    }

    private static void alikeLowestWay() {
        String top = "12....21";
        String bottom = ".x8/.x8/.x8/.x8/.x8/.x8/.x8/12....21";
        SpriteLines x = Scenes.parts(top, bottom, "", "", "3.x7/.x8/.x8/.x8/.x8/.x8/.x8/.x73", "");
        x.setPixel(5, 0, 7, 3);
        x.setPixel(5, 7, 0, 3);
        CHECK.due("2 and 3 fit: alike(0, 1)", x.alike(0, 1), 2);
        CHECK.due("0 and 1 fit: alike(0, 0)", x.alike(0, 0), 0);
        CHECK.due("all fit: alike(2, 3)", x.alike(2, 3), 0);
        CHECK.due("1 and 2 fit: alike(4, 5)", x.alike(4, 5), 1);
    }
}
