/** Steps that many tests begin with. */
final class Scenes {
    private Scenes() {
    }

    /** Types a text behind what is there. */
    static void type(SpriteLines lines, String text) {
        for (int i = 0; i < text.length(); i++) {
            lines.type(text.charAt(i));
        }
    }

    /** Types a text in place of what is there, and draws it. */
    static int draw(SpriteLines lines, int part, String text) {
        lines.clearText();
        type(lines, text);
        return lines.draw(part);
    }

    /** Adds parts with the texts drawn into them. */
    static SpriteLines parts(String... texts) {
        SpriteLines lines = new SpriteLines();
        for (String text : texts) {
            int part = lines.addPart();
            if (!text.isEmpty() && draw(lines, part, text) < 1) {
                throw new IllegalArgumentException("no text of pixels: " + text);
            }
        }
        lines.clearText();
        return lines;
    }

    /** One part that is filled with 1, and so many sprites that show it at the same place. */
    static SpriteLines stack(int sprites, int x, int y) {
        SpriteLines lines = parts("1x8/1x8/1x8/1x8/1x8/1x8/1x8/1x8");
        for (int i = 0; i < sprites; i++) {
            lines.addSprite(0, x, y);
        }
        return lines;
    }

    static String rows(SpriteLines lines, int part) {
        StringBuilder result = new StringBuilder();
        for (int row = 0; row < 8; row++) {
            result.append(row == 0 ? "" : "/");
            for (int column = 0; column < 8; column++) {
                int pixel = lines.pixel(part, row, column);
                result.append(pixel == 0 ? "." : Integer.toString(pixel));
            }
        }
        return result.toString();
    }

    /** All that can be told of an object but the text, the history and the snapshots. */
    static String told(SpriteLines lines) {
        StringBuilder result = new StringBuilder();
        for (int what = 0; what < 12; what++) {
            result.append(lines.count(what)).append(' ');
        }
        for (int part = 0; part < lines.count(0); part++) {
            result.append("\npart ").append(rows(lines, part));
        }
        for (int sprite = 0; sprite < lines.count(1); sprite++) {
            result.append("\nsprite");
            for (int what = 0; what < 9; what++) {
                result.append(' ').append(lines.sprite(sprite, what));
            }
        }
        for (int line = 0; line < 32; line++) {
            result.append("\nline ").append(lines.weight(line));
            for (int what = 0; what < 5; what++) {
                result.append(' ').append(lines.line(line, what));
            }
            result.append(" of").append(screenLine(lines, line));
        }
        return result.toString();
    }

    /** The colors of all pixels of the screen. */
    static String screen(SpriteLines lines) {
        StringBuilder result = new StringBuilder();
        for (int line = 0; line < 32; line++) {
            result.append(screenLine(lines, line)).append('\n');
        }
        return result.toString();
    }

    private static String screenLine(SpriteLines lines, int line) {
        StringBuilder result = new StringBuilder();
        for (int column = 0; column < 32; column++) {
            result.append(' ').append(lines.color(line, column));
        }
        return result.toString();
    }
}
