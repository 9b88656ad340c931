/** Steps that many tests begin with. */
final class Scenes {
    /** A part that is filled with 1. */
    static final String FILLED = "1x8/1x8/1x8/1x8/1x8/1x8/1x8/1x8";
    /** Another picture in each way to mirror it: not mirrored, in x, in y, in both. */
    static final String[] ODD = {"1.23...1/3.x7/.2.x6", "1...32.1/.x73/.x62.",
        ".x8/.x8/.x8/.x8/.x8/.2.x6/3.x7/1.23...1", ".x8/.x8/.x8/.x8/.x8/.x62./.x73/1...32.1"};

    private Scenes() {
    }

    /** Types a text behind what is there. */
    static void type(SpriteLines lines, String text) {
        for (int i = 0; i < text.length(); i++) {
            lines.type(text.charAt(i));
        }
    }

    /** Types a text in place of what is there, and draws it. */
    static int draw(SpriteLines lines, int part, String text) {
        lines.clearText();
        type(lines, text);
        return lines.draw(part);
    }

    /** Adds parts with the texts drawn into them. */
    static SpriteLines parts(String... texts) {
        SpriteLines lines = new SpriteLines();
        for (String text : texts) {
            int part = lines.addPart();
            if (!text.isEmpty() && draw(lines, part, text) < 1) {
                throw new IllegalArgumentException("no text of pixels: " + text);
            }
        }
        lines.clearText();
        return lines;
    }

    /** One part that is filled with 1, and so many sprites that show it at the same place. */
    static SpriteLines stack(int sprites, int x, int y) {
        SpriteLines lines = parts(FILLED);
        for (int i = 0; i < sprites; i++) {
            lines.addSprite(0, x, y);
        }
        return lines;
    }

    static String rows(SpriteLines lines, int part) {
        StringBuilder result = new StringBuilder();
        for (int row = 0; row < 8; row++) {
            result.append(row == 0 ? "" : "/");
            for (int column = 0; column < 8; column++) {
                int pixel = lines.pixel(part, row, column);
                result.append(pixel == 0 ? "." : Integer.toString(pixel));
            }
        }
        return result.toString();
    }

    /**
     * What can be told of a small scene: three parts with two rows, sprites in the upper left. About
     * 210 calls, as an object is good for 512.
     */
    static String told(SpriteLines lines) {
        StringBuilder result = new StringBuilder();
        for (int what = 0; what < 12; what++) {
            result.append(lines.count(what)).append(' ');
        }
        for (int part = 0; part < lines.count(0); part++) {
            result.append("\npart ").append(lines.share(part));
            for (int place = 0; place < 16; place++) {
                result.append(' ').append(lines.pixel(part, place / 8, place % 8));
            }
        }
        for (int sprite = 0; sprite < lines.count(1); sprite++) {
            result.append("\nsprite");
            for (int what = 0; what < 9; what++) {
                result.append(' ').append(lines.sprite(sprite, what));
            }
        }
        for (int line = 0; line < 12; line++) {
            result.append("\nline ").append(lines.weight(line));
            for (int what = 0; what < 5; what++) {
                result.append(' ').append(lines.line(line, what));
            }
        }
        return result + colors(lines, 0, 4, 0, 1, 3, 4, 6, 10, 11);
    }

    /** The colors of lines, in some columns. */
    static String colors(SpriteLines lines, int from, int to, int... columns) {
        StringBuilder result = new StringBuilder();
        for (int line = from; line <= to; line++) {
            result.append("\ncolors");
            for (int column : columns) {
                result.append(' ').append(lines.color(line, column));
            }
        }
        return result.toString();
    }
}
