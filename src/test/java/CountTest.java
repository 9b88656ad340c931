/** The promise 29: what is counted. */
public final class CountTest {
    private static final Check CHECK = new Check();

    public static void main(String[] args) {
        partsAndSprites();
        lines();
        linesWithSwap();
        pairs();
        partsNotShown();
        plainNumbers();
        weights();
        errors();
        CHECK.end("CountTest");
    }

    private static void partsAndSprites() {
        SpriteLines x = Scenes.parts("", "", "");
        CHECK.due("parts", x.count(0), 3);
        for (int sprite = 0; sprite < 5; sprite++) {
            x.addSprite(1, 0, 0);
            CHECK.due("sprites", x.count(1), sprite + 1);
            CHECK.due("sprites that are on", x.count(2), sprite + 1);
        }
        x.set(0, 3, 0);
        x.set(3, 3, 0);
        x.set(3, 3, 0);
        CHECK.due("sprites", x.count(1), 5);
        CHECK.due("sprites that are on", x.count(2), 3);
        x.set(3, 3, 1);
        CHECK.due("sprites that are on", x.count(2), 4);
        CHECK.due("parts", x.count(0), 3);
    }

    private static void lines() {
        SpriteLines x = Scenes.stack(5, 0, 0);
        CHECK.due("overfull", x.count(3), 8);
        CHECK.due("most", x.count(4), 5);
        x.setLimit(5);
        CHECK.due("as many as the limit", x.count(3), 0);
        CHECK.due("most", x.count(4), 5);
        x.setLimit(4);
        x.move(4, 0, 3);
        CHECK.due("five lines with all", x.count(3), 5);
        CHECK.due("most", x.count(4), 5);
        x.set(2, 3, 0);
        CHECK.due("one is off", x.count(3), 0);
        CHECK.due("most", x.count(4), 4);
        x.setLimit(1);
        CHECK.due("limit 1", x.count(3), 8);
        x.move(4, 0, 31);
        for (int sprite = 0; sprite < 4; sprite++) {
            x.move(sprite, 0, -7);
        }
        CHECK.due("line 0 alone", x.count(3), 1);
        CHECK.due("most", x.count(4), 3);
        for (int sprite = 0; sprite < 4; sprite++) {
            x.move(sprite, 0, 31);
        }
        CHECK.due("line 31 alone", x.count(3), 1);
        CHECK.due("most", x.count(4), 4);
    }

    private static void linesWithSwap() {
        SpriteLines x = new SpriteLines();
        x.swap(0, 31, 2, 1);
        CHECK.due("all", x.count(5), 32);
        x.swap(31, 31, 0, 0);
        x.swap(0, 0, 3, 3);
        CHECK.due("without two", x.count(5), 30);
    }

    private static void pairs() {
        SpriteLines x = Scenes.stack(20, 5, 5);
        CHECK.due("four are shown", x.count(6), 6);
        x.setLimit(20);
        CHECK.due("all are shown", x.count(6), 190);
        for (int sprite = 0; sprite < 20; sprite++) {
            CHECK.due("partners", x.sprite(sprite, 8), 19);
        }
        x.set(7, 3, 0);
        CHECK.due("one is off", x.count(6), 171);
        for (int sprite = 0; sprite < 20; sprite++) {
            x.move(sprite, 8 * (sprite % 4), 8 * (sprite / 4) - 4);
        }
        CHECK.due("side by side", x.count(6), 0);
        x.move(0, 4, 0);
        // It comes over 1, 4 and 5 then.
        CHECK.due("over three", x.count(6), 3);
        CHECK.due("over three", x.sprite(0, 8), 3);
        CHECK.due("one of the three", x.sprite(5, 8), 1);
    }

    private static void partsNotShown() {
        SpriteLines x = Scenes.parts("", "", "", "");
        CHECK.due("all", x.count(7), 4);
        x.addSprite(2, 0, 0);
        x.addSprite(2, 0, 0);
        x.addSprite(0, 0, 0);
        CHECK.due("two", x.count(7), 2);
        x.set(2, 3, 0);
        CHECK.due("a sprite that is off shows its part too", x.count(7), 2);
        x.set(2, 0, 2);
        CHECK.due("three", x.count(7), 3);
    }

    private static void plainNumbers() {
        SpriteLines x = new SpriteLines();
        x.next(77);
        x.setLimit(13);
        x.setStride(17);
        x.type('a');
        x.type('b');
        CHECK.due("frame", x.count(8), 77);
        CHECK.due("limit", x.count(9), 13);
        CHECK.due("stride", x.count(10), 17);
        CHECK.due("states", x.count(12), 3);
        CHECK.due("length", x.count(13), 2);
    }

    private static void weights() {
        SpriteLines x = Scenes.parts("1x8/1x8/1x8/1x8/1x8/1x8/1x8/1x8", "1x8/1x8/1x8/1x8/1x8/1x8");
        x.addSprite(0, 0, 0);
        CHECK.due("eight lines with 1", x.count(11), 8);
        x.addSprite(1, 0, 4);
        // The lines 4 to 7 have 1.75, 8 to 11 have 0.75.
        CHECK.due("each cut off", x.count(11), 8);
        x.addSprite(1, 0, 4);
        // The lines 4 to 7 have 2.5, 8 to 11 have 1.5.
        CHECK.due("each cut off", x.count(11), 4 + 4 * 2 + 4);
        x.setLimit(1);
        CHECK.due("only the first ones", x.count(11), 8);
        x.setStride(1);
        x.next(1);
        CHECK.due("another first one", x.count(11), 4);
        x.move(0, 0, -7);
        x.move(1, 0, 31);
        x.move(2, 0, 31);
        CHECK.due("line 0 alone", x.count(11), 1);
        x.move(0, 0, 31);
        x.setLimit(2);
        CHECK.due("line 31 alone, 1 and 2", x.count(11), 1);
        x.next(1);
        CHECK.due("line 31 alone, 2 and 0", x.count(11), 1);
        SpriteLines y = Scenes.stack(20, 0, 0);
        y.setLimit(20);
        CHECK.due("all", y.count(11), 160);
    }

    private static void errors() {
        SpriteLines x = Scenes.stack(2, 0, 0);
        for (int what : new int[] {-1, 14, 15, Integer.MAX_VALUE, Integer.MIN_VALUE}) {
            CHECK.due("count(" + what + ")", x.count(what), SpriteLines.BAD_VALUE);
        }
    }
}
