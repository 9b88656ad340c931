/** The promise 7: packing. */
public final class PackTest {
    private static final Check CHECK = new Check();
    /** A text of pixels that is another one in each way to mirror it. */
    private static final String ODD = "1.23...1/3.x7/.2.x6";

    public static void main(String[] args) {
        nothingToPack();
        unitesEachWay();
        lowestOfSeveralWays();
        lowestWayBehindAMirroredSprite();
        whoShowsTheLowestStays();
        removes();
        removesBehindTheUniting();
        removesAll();
        numbersInOrder();
        undone();
        fullSheet();
        CHECK.end("PackTest");
    }

    private static void nothingToPack() {
        SpriteLines x = Scenes.parts("1.x7", "2.x7", "3.x7");
        x.addSprite(0, 0, 0);
        x.addSprite(1, 0, 0);
        x.addSprite(2, 0, 0);
        int states = x.count(12);
        CHECK.due("pack(false)", x.pack(false), SpriteLines.NONE);
        CHECK.due("pack(true)", x.pack(true), SpriteLines.NONE);
        CHECK.due("states", x.count(12), states);
        x.set(2, 0, 1);
        CHECK.due("pack(false), a part not shown", x.pack(false), SpriteLines.NONE);
        CHECK.due("parts", x.count(0), 3);
        CHECK.due("pack(true), a part not shown", x.pack(true), 1);
        CHECK.due("parts then", x.count(0), 2);
    }

    /** A part and a mirrored one; sprites that show them, mirrored themselves. */
    private static void unitesEachWay() {
        for (int mirrored = 0; mirrored < 4; mirrored++) {
            for (int way = 0; way < 4; way++) {
                unites(mirrored, way);
            }
        }
    }

    private static void unites(int mirrored, int way) {
        SpriteLines x = Scenes.parts(ODD, "");
        copyMirrored(x, 0, mirrored, 1);
        CHECK.due("alike", x.alike(0, 1), mirrored);
        x.addSprite(1, 3, 7);
        x.set(0, 1, way);
        x.addSprite(0, 20, 20);
        x.set(1, 1, 2);
        String before = Scenes.colors(x, 7, 14, 3, 4, 5, 6, 7, 8, 9, 10);
        CHECK.due("pack(false)", x.pack(false), 1);
        CHECK.due("parts", x.count(0), 1);
        String after = Scenes.colors(x, 7, 14, 3, 4, 5, 6, 7, 8, 9, 10);
        CHECK.holds("the screen stays", after.equals(before));
        int[] due = {0, way ^ mirrored, 0, 1, 3, 7};
        for (int what = 0; what < 6; what++) {
            CHECK.due("sprite(0, " + what + ")", x.sprite(0, what), due[what]);
        }
        CHECK.due("way of one that shows part 0", x.sprite(1, 1), 2);
        CHECK.due("pack(false) again", x.pack(false), SpriteLines.NONE);
    }

    private static void copyMirrored(SpriteLines x, int from, int way, int to) {
        for (int row = 0; row < 8; row++) {
            for (int column = 0; column < 8; column++) {
                int fromRow = way >= 2 ? 7 - row : row;
                int fromColumn = way % 2 == 1 ? 7 - column : column;
                x.setPixel(to, row, column, x.pixel(from, fromRow, fromColumn));
            }
        }
    }

    private static void lowestOfSeveralWays() {
        // Part 1 is part 0 upside down, and both have two same sides.
        SpriteLines x = Scenes.parts("12....21", ".x8/.x8/.x8/.x8/.x8/.x8/.x8/12....21");
        for (int way = 0; way < 4; way++) {
            x.addSprite(1, 0, 8 * way);
            x.set(way, 1, way);
        }
        CHECK.due("pack(false)", x.pack(false), 1);
        CHECK.due("way of 0", x.sprite(0, 1), 2);
        CHECK.due("way of 1", x.sprite(1, 1), 2);
        CHECK.due("way of 2", x.sprite(2, 1), 0);
        CHECK.due("way of 3", x.sprite(3, 1), 0);
    }

    private static void lowestWayBehindAMirroredSprite() {
        // Each part is as itself when mirrored in both: 0 and 3, 1 and 2 are the same ways.
        SpriteLines x = Scenes.parts("1.x7/.x8/.x8/.x8/.x8/.x8/.x8/.x71",
                ".x71/.x8/.x8/.x8/.x8/.x8/.x8/1.x7", "", "");
        for (int way = 0; way < 4; way++) {
            x.addSprite(1, 0, 8 * way);
            x.set(way, 1, way);
        }
        x.addSprite(3, 0, 0);
        x.set(4, 1, 3);
        x.addSprite(2, 0, 0);
        x.set(5, 1, 3);
        CHECK.due("pack(false)", x.pack(false), 2);
        CHECK.due("parts", x.count(0), 2);
        int[] due = {1, 0, 0, 1};
        for (int way = 0; way < 4; way++) {
            CHECK.due("way of " + way, x.sprite(way, 1), due[way]);
            CHECK.due("part of " + way, x.sprite(way, 0), 0);
        }
        CHECK.due("way of a blank one", x.sprite(4, 1), 0);
        CHECK.due("part of a blank one", x.sprite(4, 0), 1);
        CHECK.due("it shows the lowest already", x.sprite(5, 1), 3);
        CHECK.due("its part", x.sprite(5, 0), 1);
    }

    private static void whoShowsTheLowestStays() {
        SpriteLines x = Scenes.parts("", "", "");
        for (int sprite = 0; sprite < 8; sprite++) {
            x.addSprite(sprite / 4, 0, 0);
            x.set(sprite, 1, sprite % 4);
        }
        CHECK.due("pack(false)", x.pack(false), 2);
        for (int sprite = 0; sprite < 8; sprite++) {
            CHECK.due("way of " + sprite, x.sprite(sprite, 1), sprite < 4 ? sprite : 0);
            CHECK.due("part of " + sprite, x.sprite(sprite, 0), 0);
        }
    }

    private static void removes() {
        SpriteLines x = Scenes.parts("1.x7", "2.x7", "3.x7", "11.x6", "22.x6");
        x.addSprite(3, 0, 0);
        x.addSprite(1, 10, 0);
        // A sprite that is off shows its part too.
        x.set(1, 3, 0);
        CHECK.due("pack(false)", x.pack(false), SpriteLines.NONE);
        CHECK.due("pack(true)", x.pack(true), 3);
        CHECK.due("parts", x.count(0), 2);
        CHECK.due("part of 0", x.sprite(0, 0), 1);
        CHECK.due("part of 1", x.sprite(1, 0), 0);
        CHECK.due("pixel of part 0", x.pixel(0, 0, 0), 2);
        CHECK.due("pixel of part 1", x.pixel(1, 0, 1), 1);
        CHECK.due("no part 2", x.pixel(2, 0, 0), SpriteLines.UNKNOWN);
        CHECK.due("a new part", x.addPart(), 2);
        CHECK.due("it is blank", x.share(2), 0);
    }

    private static void removesBehindTheUniting() {
        // Only part 2 is shown; it is united into part 0, which stays.
        SpriteLines x = Scenes.parts("1.x7", "2.x7", ".x71", ".x72");
        x.addSprite(2, 4, 4);
        CHECK.due("pack(true)", x.pack(true), 3);
        CHECK.due("parts", x.count(0), 1);
        CHECK.due("its part", x.sprite(0, 0), 0);
        CHECK.due("its way", x.sprite(0, 1), 1);
        CHECK.due("pixel", x.pixel(0, 0, 0), 1);
        CHECK.due("color", x.color(4, 11), 1);
        CHECK.due("not shown then", x.count(7), 0);
    }

    private static void removesAll() {
        SpriteLines x = Scenes.parts("1.x7", "", "");
        CHECK.due("pack(false)", x.pack(false), 1);
        CHECK.due("pack(true)", x.pack(true), 2);
        CHECK.due("parts", x.count(0), 0);
        CHECK.due("pack(true) again", x.pack(true), SpriteLines.NONE);
        CHECK.due("undo()", x.undo() >= 0 ? 1 : 0, 1);
        CHECK.due("parts then", x.count(0), 2);
        CHECK.due("pixel then", x.pixel(0, 0, 0), 1);
    }

    private static void numbersInOrder() {
        // Alike: 0 and 2, 1 and 4 and 6; alone: 3, 5, 7.
        SpriteLines x = Scenes.parts("1.x7", "2.x7", "1.x7", "3.x7", "2.x7", "11.x6", ".x72", "22.x6");
        for (int sprite = 0; sprite < 8; sprite++) {
            x.addSprite(7 - sprite, 0, 3 * sprite);
        }
        String before = Scenes.colors(x, 0, 28, 0, 1, 7);
        CHECK.due("pack(false)", x.pack(false), 3);
        CHECK.due("parts", x.count(0), 5);
        int[] due = {4, 1, 3, 1, 2, 0, 1, 0};
        for (int sprite = 0; sprite < 8; sprite++) {
            CHECK.due("part of " + sprite, x.sprite(sprite, 0), due[sprite]);
        }
        int[] pixels = {1, 2, 3, 1, 2};
        for (int part = 0; part < 5; part++) {
            CHECK.due("pixel of " + part, x.pixel(part, 0, 0), pixels[part]);
            CHECK.due("second pixel of " + part, x.pixel(part, 0, 1), part < 3 ? 0 : pixels[part]);
        }
        String after = Scenes.colors(x, 0, 28, 0, 1, 7);
        CHECK.holds("the screen stays", after.equals(before));
    }

    private static void undone() {
        SpriteLines x = Scenes.parts(ODD, "", "1...32.1/.x73/.x62.", "3.x7");
        x.addSprite(2, 1, 1);
        x.set(0, 1, 3);
        x.addSprite(3, 12, 12);
        String told = Scenes.told(x);
        CHECK.due("pack(true)", x.pack(true), 2);
        CHECK.due("states", x.count(12), 5);
        CHECK.due("undo()", x.undo(), 4);
        CHECK.holds("all as before", Scenes.told(x).equals(told));
        CHECK.due("pack(false)", x.pack(false), 1);
        CHECK.due("part of 1", x.sprite(1, 0), 2);
        CHECK.due("way of 0", x.sprite(0, 1), 2);
    }

    private static void fullSheet() {
        SpriteLines x = new SpriteLines();
        for (int part = 0; part < 24; part++) {
            x.addPart();
            x.setPixel(part, 0, 0, part / 8 + 1);
            if (part % 2 == 1) {
                x.setPixel(part, 4, 4, 3);
            }
        }
        for (int sprite = 0; sprite < 20; sprite++) {
            x.addSprite(23 - sprite, sprite, 0);
        }
        CHECK.due("pack(false)", x.pack(false), 18);
        CHECK.due("parts", x.count(0), 6);
        CHECK.due("part of 0", x.sprite(0, 0), 5);
        CHECK.due("part of 15", x.sprite(15, 0), 2);
        CHECK.due("part of 19", x.sprite(19, 0), 0);
        x.undo();
        CHECK.due("parts again", x.count(0), 24);
        // The four lowest parts are shown by none, but others that are alike are.
        CHECK.due("pack(true)", x.pack(true), 18);
        CHECK.due("undo()", x.undo(), 4);
        for (int part = 0; part < 24; part++) {
            for (int bit = 0; bit < 5; bit++) {
                x.setPixel(part, 2, bit, (part + 1 >> bit & 1) + 1);
            }
        }
        CHECK.due("pack(false) of a sheet with none alike", x.pack(false), SpriteLines.NONE);
        CHECK.due("pack(true)", x.pack(true), 4);
        CHECK.due("part of 0", x.sprite(0, 0), 19);
        CHECK.due("part of 19", x.sprite(19, 0), 0);
        CHECK.due("pixel", x.pixel(19, 0, 0), 3);
    }
}
