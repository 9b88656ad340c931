import java.util.ArrayList;
import java.util.Arrays;
import java.util.Collections;
import java.util.List;

/**
 * The document once more, pixel by pixel and without any thought of speed, to compare with. It has
 * nothing in common with the class but the names of the calls.
 */
public final class PlainSpriteLines {
    private static final class Sprite {
        int part;
        int way;
        int palette;
        int on = 1;
        int x;
        int y;

        Sprite copy() {
            Sprite copy = new Sprite();
            copy.part = part;
            copy.way = way;
            copy.palette = palette;
            copy.on = on;
            copy.x = x;
            copy.y = y;
            return copy;
        }
    }

    private static final class Whole {
        final List<int[][]> parts = new ArrayList<>();
        final List<Sprite> sprites = new ArrayList<>();
        int[][] colors = new int[4][4];
        /** For each line null or two palettes. */
        int[][] swaps = new int[32][];
        int limit = 4;
        int stride;
        int frame;

        Whole copy() {
            Whole copy = new Whole();
            for (int[][] part : parts) {
                copy.parts.add(copyOf(part));
            }
            for (Sprite sprite : sprites) {
                copy.sprites.add(sprite.copy());
            }
            copy.colors = copyOf(colors);
            copy.swaps = swaps.clone();
            copy.limit = limit;
            copy.stride = stride;
            copy.frame = frame;
            return copy;
        }
    }

    private Whole whole = new Whole();
    private final List<Whole> history = new ArrayList<>();
    private final Whole[] snapshots = new Whole[2];
    private String text = "";

    public PlainSpriteLines() {
        for (int palette = 0; palette < 4; palette++) {
            for (int pixel = 1; pixel <= 3; pixel++) {
                whole.colors[palette][pixel] = 16 * palette + pixel;
            }
        }
    }

    int parts() {
        return whole.parts.size();
    }

    int sprites() {
        return whole.sprites.size();
    }

    private static int[][] copyOf(int[][] rows) {
        int[][] copy = new int[rows.length][];
        for (int i = 0; i < rows.length; i++) {
            copy[i] = rows[i].clone();
        }
        return copy;
    }

    private static boolean in(int value, int from, int to) {
        return value >= from && value <= to;
    }

    private boolean isPart(int part) {
        return in(part, 0, whole.parts.size() - 1);
    }

    private boolean isSprite(int sprite) {
        return in(sprite, 0, whole.sprites.size() - 1);
    }

    private void act() {
        history.add(whole.copy());
        if (history.size() > 5) {
            history.remove(0);
        }
    }

    private static int[][] mirror(int[][] pixels, int way) {
        int[][] result = new int[8][8];
        for (int row = 0; row < 8; row++) {
            for (int column = 0; column < 8; column++) {
                int toRow = way == 2 || way == 3 ? 7 - row : row;
                int toColumn = way == 1 || way == 3 ? 7 - column : column;
                result[toRow][toColumn] = pixels[row][column];
            }
        }
        return result;
    }

    /** The lowest way to mirror the pixels so that they are the wanted ones; -5 if none. */
    private static int way(int[][] wanted, int[][] pixels) {
        for (int way = 0; way < 4; way++) {
            if (Arrays.deepEquals(wanted, mirror(pixels, way))) {
                return way;
            }
        }
        return -5;
    }

    public int addPart() {
        if (whole.parts.size() == 24) {
            return -3;
        }
        act();
        whole.parts.add(new int[8][8]);
        return whole.parts.size() - 1;
    }

    public int setPixel(int part, int row, int column, int pixel) {
        int before = pixel(part, row, column);
        if (before < 0) {
            return before;
        }
        if (!in(pixel, 0, 3)) {
            return -2;
        }
        act();
        whole.parts.get(part)[row][column] = pixel;
        return before;
    }

    public int type(char character) {
        if (text.length() == 60) {
            return -3;
        }
        text += character;
        return text.length();
    }

    public int clearText() {
        int length = text.length();
        text = "";
        return length;
    }

    public int draw(int part) {
        if (!isPart(part)) {
            return -1;
        }
        List<Integer> pixels = new ArrayList<>();
        int fault = readText(pixels);
        if (fault >= 0) {
            return -100 - fault;
        }
        act();
        for (int i = 0; i < pixels.size(); i++) {
            whole.parts.get(part)[i / 8][i % 8] = pixels.get(i);
        }
        return pixels.size() / 8;
    }

    /** Reads the text item by item; returns its fault, -1 if it has none. */
    private int readText(List<Integer> pixels) {
        int at = 0;
        int row = 0;
        int width = 0;
        while (at < text.length()) {
            if (width == 8) {
                if (text.charAt(at) != '/' || row == 7) {
                    return at;
                }
                row++;
                width = 0;
                at++;
                continue;
            }
            int pixel = ".123".indexOf(text.charAt(at));
            if (pixel < 0) {
                return at;
            }
            at++;
            int times = 1;
            if (at < text.length() && text.charAt(at) == 'x') {
                at++;
                times = at < text.length() ? "..2345678".indexOf(text.charAt(at)) : 0;
                if (times < 2 || width + times > 8) {
                    return at;
                }
                at++;
            }
            pixels.addAll(Collections.nCopies(times, pixel));
            width += times;
        }
        return width == 8 ? -1 : at;
    }

    public int pack(boolean removed) {
        Whole before = whole.copy();
        List<int[][]> parts = whole.parts;
        int[] lowest = new int[parts.size()];
        for (int part = 0; part < parts.size(); part++) {
            while (way(parts.get(part), parts.get(lowest[part])) < 0) {
                lowest[part]++;
            }
        }
        for (Sprite sprite : whole.sprites) {
            int to = lowest[sprite.part];
            if (to != sprite.part) {
                sprite.way = way(mirror(parts.get(sprite.part), sprite.way), parts.get(to));
                sprite.part = to;
            }
        }
        boolean[] goes = new boolean[parts.size()];
        for (int part = 0; part < parts.size(); part++) {
            goes[part] = lowest[part] != part || removed && !isShown(part);
        }
        int gone = 0;
        for (int part = goes.length - 1; part >= 0; part--) {
            if (goes[part]) {
                gone++;
                parts.remove(part);
                for (Sprite sprite : whole.sprites) {
                    if (sprite.part > part) {
                        sprite.part--;
                    }
                }
            }
        }
        if (gone == 0) {
            whole = before;
            return -5;
        }
        Whole after = whole;
        whole = before;
        act();
        whole = after;
        return gone;
    }

    private boolean isShown(int part) {
        for (Sprite sprite : whole.sprites) {
            if (sprite.part == part) {
                return true;
            }
        }
        return false;
    }

    public int setColor(int palette, int pixel, int color) {
        if (!in(palette, 0, 3)) {
            return -1;
        }
        if (!in(pixel, 1, 3) || !in(color, 0, 63)) {
            return -2;
        }
        act();
        int before = whole.colors[palette][pixel];
        whole.colors[palette][pixel] = color;
        return before;
    }

    public int addSprite(int part, int x, int y) {
        if (!isPart(part)) {
            return -1;
        }
        if (!in(x, -7, 31) || !in(y, -7, 31)) {
            return -2;
        }
        if (whole.sprites.size() == 20) {
            return -3;
        }
        act();
        Sprite sprite = new Sprite();
        sprite.part = part;
        sprite.x = x;
        sprite.y = y;
        whole.sprites.add(sprite);
        return whole.sprites.size() - 1;
    }

    public int move(int sprite, int x, int y) {
        if (!isSprite(sprite)) {
            return -1;
        }
        if (!in(x, -7, 31) || !in(y, -7, 31)) {
            return -2;
        }
        act();
        whole.sprites.get(sprite).x = x;
        whole.sprites.get(sprite).y = y;
        return sprite(sprite, 7);
    }

    public int set(int sprite, int what, int value) {
        if (!isSprite(sprite)) {
            return -1;
        }
        int[] most = {whole.parts.size() - 1, 3, 3, 1};
        if (!in(what, 0, 3) || !in(value, 0, most[what])) {
            return -2;
        }
        int before = sprite(sprite, what);
        act();
        Sprite changed = whole.sprites.get(sprite);
        changed.part = what == 0 ? value : changed.part;
        changed.way = what == 1 ? value : changed.way;
        changed.palette = what == 2 ? value : changed.palette;
        changed.on = what == 3 ? value : changed.on;
        return before;
    }

    public int swap(int from, int to, int one, int other) {
        if (!in(from, 0, 31) || !in(to, 0, 31) || !in(one, 0, 3) || !in(other, 0, 3)) {
            return -1;
        }
        if (from > to) {
            return -2;
        }
        act();
        for (int line = from; line <= to; line++) {
            whole.swaps[line] = one == other ? null : new int[] {one, other};
        }
        return count(5);
    }

    public int setLimit(int limit) {
        if (!in(limit, 1, 20)) {
            return -2;
        }
        act();
        int before = whole.limit;
        whole.limit = limit;
        return before;
    }

    public int setStride(int stride) {
        if (!in(stride, 0, 19)) {
            return -2;
        }
        act();
        int before = whole.stride;
        whole.stride = stride;
        return before;
    }

    public int next(int frames) {
        if (!in(frames, 1, 100000)) {
            return -2;
        }
        if (whole.frame + frames > 1000000) {
            return -4;
        }
        act();
        whole.frame += frames;
        return whole.frame;
    }

    public int undo() {
        if (history.isEmpty()) {
            return -5;
        }
        whole = history.remove(history.size() - 1);
        return history.size();
    }

    public int keep(int slot) {
        if (!in(slot, 0, 1)) {
            return -1;
        }
        snapshots[slot] = whole.copy();
        return whole.frame;
    }

    public int restore(int slot) {
        if (!in(slot, 0, 1)) {
            return -1;
        }
        if (snapshots[slot] == null) {
            return -5;
        }
        act();
        whole = snapshots[slot].copy();
        return whole.frame;
    }

    public int pixel(int part, int row, int column) {
        if (!isPart(part)) {
            return -1;
        }
        return in(row, 0, 7) && in(column, 0, 7) ? whole.parts.get(part)[row][column] : -2;
    }

    public float share(int part) {
        int filled = 0;
        if (isPart(part)) {
            for (int[] row : whole.parts.get(part)) {
                for (int pixel : row) {
                    filled += pixel != 0 ? 1 : 0;
                }
            }
        }
        return filled / 64f;
    }

    public int alike(int one, int other) {
        if (!isPart(one) || !isPart(other)) {
            return -1;
        }
        return way(whole.parts.get(one), whole.parts.get(other));
    }

    /** The sprites that are on and cover a line, in the order of turns. */
    private List<Integer> covering(int line, int frame) {
        List<Integer> result = new ArrayList<>();
        int k = whole.sprites.size();
        for (int i = 0; i < k; i++) {
            int number = (int) (((long) frame * whole.stride + i) % k);
            Sprite sprite = whole.sprites.get(number);
            if (sprite.on == 1 && in(line, sprite.y, sprite.y + 7)) {
                result.add(number);
            }
        }
        return result;
    }

    private List<Integer> showing(int line, int frame) {
        List<Integer> all = covering(line, frame);
        return all.subList(0, Math.min(all.size(), whole.limit));
    }

    /** The pixel of a sprite at a place of the screen, whether it is shown or not. */
    private int pixelAt(int number, int line, int column) {
        Sprite sprite = whole.sprites.get(number);
        int row = line - sprite.y;
        int across = column - sprite.x;
        if (!in(row, 0, 7) || !in(across, 0, 7)) {
            return 0;
        }
        return mirror(whole.parts.get(sprite.part), sprite.way)[row][across];
    }

    public int color(int line, int column) {
        if (!in(line, 0, 31) || !in(column, 0, 31)) {
            return -1;
        }
        List<Integer> shown = new ArrayList<>(showing(line, whole.frame));
        Collections.sort(shown);
        for (int number : shown) {
            int pixel = pixelAt(number, line, column);
            if (pixel != 0) {
                int palette = whole.sprites.get(number).palette;
                int[] swap = whole.swaps[line];
                if (swap != null && palette == swap[0]) {
                    palette = swap[1];
                } else if (swap != null && palette == swap[1]) {
                    palette = swap[0];
                }
                return whole.colors[palette][pixel];
            }
        }
        return 0;
    }

    public int sprite(int number, int what) {
        if (!isSprite(number)) {
            return -1;
        }
        if (!in(what, 0, 8)) {
            return -2;
        }
        Sprite sprite = whole.sprites.get(number);
        int showing = 0;
        int covered = 0;
        for (int line = 0; line < 32; line++) {
            showing += what == 6 && showing(line, whole.frame).contains(number) ? 1 : 0;
            covered += in(line, sprite.y, sprite.y + 7) ? 1 : 0;
        }
        int met = 0;
        for (int other = 0; what == 8 && other < whole.sprites.size(); other++) {
            met += other != number ? meet(number, other) : 0;
        }
        int[] answers = {sprite.part, sprite.way, sprite.palette, sprite.on, sprite.x, sprite.y,
            showing, covered, met};
        return answers[what];
    }

    public int line(int line, int what) {
        if (!in(line, 0, 31)) {
            return -1;
        }
        if (!in(what, 0, 4)) {
            return -2;
        }
        int colored = 0;
        for (int column = 0; column < 32; column++) {
            colored += color(line, column) != 0 ? 1 : 0;
        }
        int[] swap = whole.swaps[line];
        int low = swap == null ? -5 : Math.min(swap[0], swap[1]);
        int high = swap == null ? -5 : Math.max(swap[0], swap[1]);
        int[] answers = {covering(line, 0).size(), showing(line, whole.frame).size(), colored, low,
            high};
        return answers[what];
    }

    public float weight(int line) {
        if (!in(line, 0, 31)) {
            return 0;
        }
        List<Integer> shown = new ArrayList<>(showing(line, whole.frame));
        Collections.sort(shown);
        float sum = 0;
        for (int number : shown) {
            sum += share(whole.sprites.get(number).part);
        }
        return sum;
    }

    public int shown(int line, int place) {
        if (!in(line, 0, 31)) {
            return -1;
        }
        if (place < 0) {
            return -2;
        }
        List<Integer> shown = showing(line, whole.frame);
        return place < shown.size() ? shown.get(place) : -5;
    }

    public int meet(int one, int other) {
        if (!isSprite(one) || !isSprite(other)) {
            return -1;
        }
        if (one == other) {
            return -2;
        }
        for (int line = 0; line < 32; line++) {
            List<Integer> shown = showing(line, whole.frame);
            if (shown.contains(one) && shown.contains(other)) {
                for (int column = 0; column < 32; column++) {
                    if (pixelAt(one, line, column) != 0 && pixelAt(other, line, column) != 0) {
                        return 1;
                    }
                }
            }
        }
        return 0;
    }

    public int shownIn(int line, int sprite) {
        if (!in(line, 0, 31) || !isSprite(sprite)) {
            return -1;
        }
        int frames = 0;
        while (frames <= 20 && !showing(line, whole.frame + frames).contains(sprite)) {
            frames++;
        }
        return frames <= 20 ? frames : -5;
    }

    public int count(int what) {
        int on = 0;
        for (Sprite sprite : whole.sprites) {
            on += sprite.on;
        }
        int overfull = 0;
        int most = 0;
        int swapped = 0;
        int weights = 0;
        for (int line = 0; line < 32; line++) {
            int covering = covering(line, whole.frame).size();
            overfull += covering > showing(line, whole.frame).size() ? 1 : 0;
            most = Math.max(most, covering);
            swapped += whole.swaps[line] != null ? 1 : 0;
            weights += (int) weight(line);
        }
        int pairs = 0;
        for (int one = 0; what == 6 && one < whole.sprites.size(); one++) {
            for (int other = 0; other < one; other++) {
                pairs += meet(one, other);
            }
        }
        int alone = 0;
        for (int part = 0; part < whole.parts.size(); part++) {
            alone += isShown(part) ? 0 : 1;
        }
        int[] answers = {whole.parts.size(), whole.sprites.size(), on, overfull, most, swapped,
            pairs, alone, whole.frame, whole.limit, whole.stride, weights, history.size(),
            text.length()};
        return in(what, 0, 13) ? answers[what] : -2;
    }
}
