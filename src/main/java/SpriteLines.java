/**
 * Sprites on a screen of scan lines: a sheet of parts that are shared and mirrored, palettes that
 * are swapped by rows, lines that can show only so many parts, flicker that takes turns, parts that
 * meet, a sheet that is packed, texts of pixels, undo and snapshots.
 */
public final class SpriteLines {
    /** There is no such part, sprite, line, palette or snapshot. */
    public static final int UNKNOWN = -1;
    /** Another argument is out of range. */
    public static final int BAD_VALUE = -2;
    /** There is no more room. */
    public static final int FULL = -3;
    /** This is not possible. */
    public static final int NOT_POSSIBLE = -4;
    /** There is no such thing; not an error. */
    public static final int NONE = -5;

    private static final int PARTS = 24;
    /** The rows of a part, and the pixels of a row. */
    private static final int SIDE = 8;
    private static final int PIXELS = 4;
    private static final int PALETTES = 4;
    private static final int COLORS = 64;
    private static final int LINES = 32;
    private static final int COLUMNS = 32;
    private static final int SPRITES = 20;
    /** The ways to mirror: 0 not, 1 in x, 2 in y, 3 in both. */
    private static final int WAYS = 4;
    private static final int MOST_FRAMES_AT_ONCE = 100000;
    private static final int LAST_FRAME = 1000000;
    private static final int FRAMES_AHEAD = 20;
    private static final int TEXT_LENGTH = 60;
    private static final int FAULT_BASE = -100;
    private static final int STATES = 5;
    private static final int SLOTS = 2;

    /** The properties of a sprite, by the numbers that set() and sprite() give them. */
    private static final int PART = 0;
    private static final int MIRROR = 1;
    private static final int PALETTE = 2;
    private static final int ON = 3;
    private static final int X = 4;
    private static final int Y = 5;
    private static final int PROPERTIES = 6;

    private final State now = new State();
    private final View view = new View(now);
    private final Packing packing = new Packing(now);
    private final PixelText text = new PixelText();
    private final History history = new History();
    private final State[] snapshots = new State[SLOTS];

    /** Creates an empty sheet and an empty screen, in the frame 0. */
    public SpriteLines() {
    }

    // ---- the sheet

    /** Adds a part. Returns its number; FULL. */
    public int addPart() {
        int part = now.sheet.parts;
        if (part >= PARTS) {
            return FULL;
        }
        history.remember(now);
        now.sheet.addBlank();
        return part;
    }

    /** Sets a pixel of a part. Returns the previous pixel; UNKNOWN; BAD_VALUE. */
    public int setPixel(int part, int row, int column, int pixel) {
        if (isNoPart(part)) {
            return UNKNOWN;
        }
        if (isNoPlaceInPart(row, column) || pixel < 0 || pixel >= PIXELS) {
            return BAD_VALUE;
        }
        history.remember(now);
        int previous = now.sheet.pixelAt(part, 0, row, column);
        now.sheet.putPixel(part, row, column, pixel);
        return previous;
    }

    /** Appends a character to the text. Returns the length of the text then; FULL. */
    public int type(char character) {
        if (text.length >= TEXT_LENGTH) {
            return FULL;
        }
        text.append(character);
        return text.length;
    }

    /** Empties the text. Returns the length that it had. */
    public int clearText() {
        int length = text.length;
        text.length = 0;
        return length;
    }

    /** Draws the text into a part. Returns the rows drawn; UNKNOWN; -100 minus the text's fault. */
    public int draw(int part) {
        if (isNoPart(part)) {
            return UNKNOWN;
        }
        int fault = text.read();
        if (fault != NONE) {
            return FAULT_BASE - fault;
        }
        history.remember(now);
        int rows = text.row + 1;
        now.sheet.putRows(part, rows, text.low, text.high);
        return rows;
    }

    /** Packs the sheet. Returns the number of parts that go; NONE if none goes. */
    public int pack(boolean removed) {
        int going = packing.plan(removed);
        if (going == 0) {
            return NONE;
        }
        history.remember(now);
        packing.carryOut();
        return going;
    }

    /** Sets a color. Returns the previous color; UNKNOWN; BAD_VALUE. */
    public int setColor(int palette, int pixel, int color) {
        if (isNoPalette(palette)) {
            return UNKNOWN;
        }
        if (pixel < 1 || pixel >= PIXELS || color < 0 || color >= COLORS) {
            return BAD_VALUE;
        }
        history.remember(now);
        int previous = now.colorOf(palette, pixel);
        now.putColor(palette, pixel, color);
        return previous;
    }

    // ---- the screen

    /** Adds a sprite. Returns its number; UNKNOWN; BAD_VALUE; FULL. */
    public int addSprite(int part, int x, int y) {
        if (isNoPart(part)) {
            return UNKNOWN;
        }
        if (isNoPlaceOnScreen(x, y)) {
            return BAD_VALUE;
        }
        int sprite = now.sprites;
        if (sprite >= SPRITES) {
            return FULL;
        }
        history.remember(now);
        now.sprites = sprite + 1;
        now.putProperty(sprite, PART, part);
        now.putProperty(sprite, MIRROR, 0);
        now.putProperty(sprite, PALETTE, 0);
        now.putProperty(sprite, ON, 1);
        now.putProperty(sprite, X, x);
        now.putProperty(sprite, Y, y);
        return sprite;
    }

    /** Moves a sprite. Returns how many lines it covers then; UNKNOWN; BAD_VALUE. */
    public int move(int sprite, int x, int y) {
        if (isNoSprite(sprite)) {
            return UNKNOWN;
        }
        if (isNoPlaceOnScreen(x, y)) {
            return BAD_VALUE;
        }
        history.remember(now);
        now.putProperty(sprite, X, x);
        now.putProperty(sprite, Y, y);
        return now.linesCovered(sprite);
    }

    /** Sets a property of a sprite. Returns the previous value; UNKNOWN; BAD_VALUE. */
    public int set(int sprite, int what, int value) {
        if (isNoSprite(sprite)) {
            return UNKNOWN;
        }
        if (value < 0 || value >= valuesOf(what)) {
            return BAD_VALUE;
        }
        history.remember(now);
        int previous = now.property(sprite, what);
        now.putProperty(sprite, what, value);
        return previous;
    }

    /** Sets the swap of lines. Returns the lines with a swap then; UNKNOWN; BAD_VALUE. */
    public int swap(int from, int to, int one, int other) {
        if (isNoLine(from) || isNoLine(to) || isNoPalette(one) || isNoPalette(other)) {
            return UNKNOWN;
        }
        if (to < from) {
            return BAD_VALUE;
        }
        history.remember(now);
        for (int line = from; line <= to; line++) {
            now.putSwap(line, one, other);
        }
        return now.linesWithSwap();
    }

    /** Sets the limit of all lines. Returns the previous one; BAD_VALUE. */
    public int setLimit(int limit) {
        if (limit < 1 || limit > SPRITES) {
            return BAD_VALUE;
        }
        history.remember(now);
        int previous = now.limit;
        now.limit = limit;
        return previous;
    }

    /** Sets the stride. Returns the previous one; BAD_VALUE. */
    public int setStride(int stride) {
        if (stride < 0 || stride >= SPRITES) {
            return BAD_VALUE;
        }
        history.remember(now);
        int previous = now.stride;
        now.stride = stride;
        return previous;
    }

    /** Lets frames go by. Returns the frame then; BAD_VALUE; NOT_POSSIBLE. */
    public int next(int frames) {
        if (frames < 1 || frames > MOST_FRAMES_AT_ONCE) {
            return BAD_VALUE;
        }
        if (now.frame > LAST_FRAME - frames) {
            return NOT_POSSIBLE;
        }
        history.remember(now);
        now.frame = now.frame + frames;
        return now.frame;
    }

    // ---- history

    /** Restores the latest state of the history. Returns the number of states left; NONE. */
    public int undo() {
        if (history.size == 0) {
            return NONE;
        }
        history.takeBack(now);
        return history.size;
    }

    /** Takes a snapshot of the state. Returns the frame; UNKNOWN. */
    public int keep(int slot) {
        if (isNoSlot(slot)) {
            return UNKNOWN;
        }
        if (snapshots[slot] == null) {
            snapshots[slot] = new State();
        }
        snapshots[slot].copyFrom(now);
        return now.frame;
    }

    /** Restores the state of a snapshot, which stays. Returns the frame then; UNKNOWN; NONE. */
    public int restore(int slot) {
        if (isNoSlot(slot)) {
            return UNKNOWN;
        }
        State snapshot = snapshots[slot];
        if (snapshot == null) {
            return NONE;
        }
        history.remember(now);
        now.copyFrom(snapshot);
        return now.frame;
    }

    // ---- what is told

    /** Returns a pixel of a part; UNKNOWN; BAD_VALUE. */
    public int pixel(int part, int row, int column) {
        if (isNoPart(part)) {
            return UNKNOWN;
        }
        if (isNoPlaceInPart(row, column)) {
            return BAD_VALUE;
        }
        return now.sheet.pixelAt(part, 0, row, column);
    }

    /** Returns the share of a part; 0 if there is no such part. */
    public float share(int part) {
        return isNoPart(part) ? 0.0f : now.sheet.shareOf(part);
    }

    /** Returns how the other part is to be mirrored to be as the first one; UNKNOWN; NONE. */
    public int alike(int one, int other) {
        if (isNoPart(one) || isNoPart(other)) {
            return UNKNOWN;
        }
        return now.sheet.wayToMatch(one, 0, other);
    }

    /** Returns the color of a pixel of the screen in the present frame; UNKNOWN. */
    public int color(int line, int column) {
        if (isNoLine(line) || column < 0 || column >= COLUMNS) {
            return UNKNOWN;
        }
        return view.colorAt(line, column, view.shownSet(line, now.frame));
    }

    /** Returns a property of a sprite; UNKNOWN; BAD_VALUE. */
    public int sprite(int sprite, int what) {
        if (isNoSprite(sprite)) {
            return UNKNOWN;
        }
        if (what >= 0 && what < PROPERTIES) {
            return now.property(sprite, what);
        }
        switch (what) {
            case 6:
                return view.linesShowing(sprite);
            case 7:
                return now.linesCovered(sprite);
            case 8:
                return Integer.bitCount(view.partnersOf(sprite));
            default:
                return BAD_VALUE;
        }
    }

    /** Returns a property of a line; UNKNOWN; BAD_VALUE; NONE for the palettes of no swap. */
    public int line(int line, int what) {
        if (isNoLine(line)) {
            return UNKNOWN;
        }
        switch (what) {
            case 0:
                return view.countCovering(line);
            case 1:
                return view.findShown(line, now.frame);
            case 2:
                return view.countColored(line);
            case 3:
                return now.hasSwap(line) ? now.lowerOfSwap(line) : NONE;
            case 4:
                return now.hasSwap(line) ? now.upperOfSwap(line) : NONE;
            default:
                return BAD_VALUE;
        }
    }

    /** Returns the weight of a line; 0 if there is no such line. */
    public float weight(int line) {
        return isNoLine(line) ? 0.0f : view.weightOf(line);
    }

    /** Returns the sprite at a place, in the order of turns; UNKNOWN; BAD_VALUE; NONE. */
    public int shown(int line, int place) {
        if (isNoLine(line)) {
            return UNKNOWN;
        }
        if (place < 0) {
            return BAD_VALUE;
        }
        return view.shownAt(line, place);
    }

    /** Returns 1 if two sprites meet, otherwise 0; UNKNOWN; BAD_VALUE. */
    public int meet(int one, int other) {
        if (isNoSprite(one) || isNoSprite(other)) {
            return UNKNOWN;
        }
        if (one == other) {
            return BAD_VALUE;
        }
        return contains(view.partnersOf(one), other) ? 1 : 0;
    }

    /** Returns in how many frames a line shows a sprite for the next time; UNKNOWN; NONE. */
    public int shownIn(int line, int sprite) {
        if (isNoLine(line) || isNoSprite(sprite)) {
            return UNKNOWN;
        }
        for (int frames = 0; frames <= FRAMES_AHEAD; frames++) {
            if (contains(view.shownSet(line, now.frame + frames), sprite)) {
                return frames;
            }
        }
        return NONE;
    }

    /** Returns a number that tells of the whole; BAD_VALUE. */
    public int count(int what) {
        switch (what) {
            case 0:
                return now.sheet.parts;
            case 1:
                return now.sprites;
            case 2:
                return now.spritesOn();
            case 3:
                return view.countOverfullLines();
            case 4:
                return view.mostCovering();
            case 5:
                return now.linesWithSwap();
            case 6:
                return view.countMeetingPairs();
            case 7:
                return now.partsNotUsed();
            case 8:
                return now.frame;
            case 9:
                return now.limit;
            case 10:
                return now.stride;
            case 11:
                return view.sumOfWholeWeights();
            case 12:
                return history.size;
            case 13:
                return text.length;
            default:
                return BAD_VALUE;
        }
    }

    // ---- the checks of arguments

    private boolean isNoPart(int part) {
        return part < 0 || part >= now.sheet.parts;
    }

    private boolean isNoSprite(int sprite) {
        return sprite < 0 || sprite >= now.sprites;
    }

    private static boolean isNoLine(int line) {
        return line < 0 || line >= LINES;
    }

    private static boolean isNoPalette(int palette) {
        return palette < 0 || palette >= PALETTES;
    }

    private static boolean isNoPlaceInPart(int row, int column) {
        return row < 0 || row >= SIDE || column < 0 || column >= SIDE;
    }

    private static boolean isNoPlaceOnScreen(int x, int y) {
        return x <= -SIDE || x >= COLUMNS || y <= -SIDE || y >= LINES;
    }

    private static boolean isNoSlot(int slot) {
        return slot < 0 || slot >= SLOTS;
    }

    /** How many values, from 0 on, a property can be set to; 0 if it can't be set at all. */
    private int valuesOf(int what) {
        switch (what) {
            case PART:
                return now.sheet.parts;
            case MIRROR:
                return WAYS;
            case PALETTE:
                return PALETTES;
            case ON:
                return 2;
            default:
                return 0;
        }
    }

    /** Whether a set of sprites, one bit for each, contains a sprite. */
    private static boolean contains(int sprites, int sprite) {
        return (sprites >> sprite & 1) != 0;
    }

    /**
     * The parts. The two bits of a pixel stand in two planes, at the bit 8 * row + column of each,
     * so that whole parts can be mirrored and compared at once.
     */
    private static final class Sheet {
        int parts;
        final long[] low = new long[PARTS];
        final long[] high = new long[PARTS];

        void copyFrom(Sheet other) {
            parts = other.parts;
            System.arraycopy(other.low, 0, low, 0, PARTS);
            System.arraycopy(other.high, 0, high, 0, PARTS);
        }

        long lowOf(int part) {
            return part >= 0 && part < low.length ? low[part] : 0L;
        }

        long highOf(int part) {
            return part >= 0 && part < high.length ? high[part] : 0L;
        }

        void putPlanes(int part, long lowPlane, long highPlane) {
            if (part >= 0 && part < low.length && part < high.length) {
                low[part] = lowPlane;
                high[part] = highPlane;
            }
        }

        void addBlank() {
            putPlanes(parts, 0L, 0L);
            parts++;
        }

        int pixelAt(int part, int way, int row, int column) {
            int place = SIDE * row + column;
            if ((way & 1) != 0) {
                place ^= SIDE - 1;
            }
            if ((way & 2) != 0) {
                place ^= SIDE * (SIDE - 1);
            }
            return (int) (lowOf(part) >>> place & 1L) + 2 * (int) (highOf(part) >>> place & 1L);
        }

        void putPixel(int part, int row, int column, int pixel) {
            int place = SIDE * row + column;
            long others = ~(1L << place);
            putPlanes(part,
                    lowOf(part) & others | (long) (pixel & 1) << place,
                    highOf(part) & others | (long) (pixel >> 1 & 1) << place);
        }

        /** Puts the first rows of two planes, whose other rows are 0, into a part. */
        void putRows(int part, int rows, long lowPlane, long highPlane) {
            // A shift by all 64 bits would be one by none.
            long others = rows >= SIDE ? 0L : -1L << SIDE * rows;
            putPlanes(part, lowOf(part) & others | lowPlane, highOf(part) & others | highPlane);
        }

        /** The pixels of a row that are not 0, one bit for each column. */
        int filledInRow(int part, int way, int row) {
            long plane = mirrored(lowOf(part) | highOf(part), way);
            return (int) (plane >>> SIDE * row & 0xFFL);
        }

        float shareOf(int part) {
            return (float) Long.bitCount(lowOf(part) | highOf(part)) / 64.0f;
        }

        /** The lowest way for another part to be as a part is that is mirrored in a way; NONE. */
        int wayToMatch(int part, int way, int other) {
            long lowPlane = mirrored(lowOf(part), way);
            long highPlane = mirrored(highOf(part), way);
            for (int each = 0; each < WAYS; each++) {
                if (mirrored(lowOf(other), each) == lowPlane
                        && mirrored(highOf(other), each) == highPlane) {
                    return each;
                }
            }
            return NONE;
        }

        /** The lowest part that is alike; a part is alike to itself. */
        int lowestAlike(int part) {
            for (int other = 0; other < part; other++) {
                if (wayToMatch(part, 0, other) != NONE) {
                    return other;
                }
            }
            return part;
        }

        /** A plane mirrored in a way: single bits, pairs and halves of its rows, then of itself. */
        private static long mirrored(long plane, int way) {
            long result = plane;
            if ((way & 1) != 0) {
                result = exchanged(result, 1, 0x5555555555555555L);
                result = exchanged(result, 2, 0x3333333333333333L);
                result = exchanged(result, 4, 0x0F0F0F0F0F0F0F0FL);
            }
            if ((way & 2) != 0) {
                result = exchanged(result, 8, 0x00FF00FF00FF00FFL);
                result = exchanged(result, 16, 0x0000FFFF0000FFFFL);
                result = exchanged(result, 32, 0x00000000FFFFFFFFL);
            }
            return result;
        }

        /** Exchanges the bits of the mask with those that stand so many places above them. */
        private static long exchanged(long plane, int places, long mask) {
            return plane >>> places & mask | (plane & mask) << places;
        }
    }

    /** All that undo and snapshots bring back: everything but text, history and snapshots. */
    private static final class State {
        int frame;
        int limit = 4;
        int stride;
        int sprites;
        final Sheet sheet = new Sheet();
        private final int[] properties = new int[SPRITES * PROPERTIES];
        private final int[] colors = new int[PALETTES * PIXELS];
        /** The palettes of each line's swap; two that are the same stand for no swap. */
        private final int[] lowerOfSwaps = new int[LINES];
        private final int[] upperOfSwaps = new int[LINES];

        State() {
            for (int palette = 0; palette < PALETTES; palette++) {
                for (int pixel = 1; pixel < PIXELS; pixel++) {
                    colors[PIXELS * palette + pixel] = 16 * palette + pixel;
                }
            }
        }

        void copyFrom(State other) {
            frame = other.frame;
            limit = other.limit;
            stride = other.stride;
            sprites = other.sprites;
            sheet.copyFrom(other.sheet);
            System.arraycopy(other.properties, 0, properties, 0, SPRITES * PROPERTIES);
            System.arraycopy(other.colors, 0, colors, 0, PALETTES * PIXELS);
            System.arraycopy(other.lowerOfSwaps, 0, lowerOfSwaps, 0, LINES);
            System.arraycopy(other.upperOfSwaps, 0, upperOfSwaps, 0, LINES);
        }

        int property(int sprite, int what) {
            int index = PROPERTIES * sprite + what;
            return index >= 0 && index < properties.length ? properties[index] : 0;
        }

        void putProperty(int sprite, int what, int value) {
            int index = PROPERTIES * sprite + what;
            if (index >= 0 && index < properties.length) {
                properties[index] = value;
            }
        }

        int colorOf(int palette, int pixel) {
            int index = PIXELS * palette + pixel;
            return index >= 0 && index < colors.length ? colors[index] : 0;
        }

        void putColor(int palette, int pixel, int color) {
            int index = PIXELS * palette + pixel;
            if (index >= 0 && index < colors.length) {
                colors[index] = color;
            }
        }

        int lowerOfSwap(int line) {
            return line >= 0 && line < lowerOfSwaps.length ? lowerOfSwaps[line] : 0;
        }

        int upperOfSwap(int line) {
            return line >= 0 && line < upperOfSwaps.length ? upperOfSwaps[line] : 0;
        }

        boolean hasSwap(int line) {
            return lowerOfSwap(line) != upperOfSwap(line);
        }

        void putSwap(int line, int one, int other) {
            if (line >= 0 && line < lowerOfSwaps.length && line < upperOfSwaps.length) {
                lowerOfSwaps[line] = Math.min(one, other);
                upperOfSwaps[line] = Math.max(one, other);
            }
        }

        int linesWithSwap() {
            int lines = 0;
            for (int line = 0; line < LINES; line++) {
                if (hasSwap(line)) {
                    lines++;
                }
            }
            return lines;
        }

        /** The palette that stands for a palette on a line, behind the line's swap. */
        int paletteOnLine(int palette, int line) {
            if (palette == lowerOfSwap(line)) {
                return upperOfSwap(line);
            }
            return palette == upperOfSwap(line) ? lowerOfSwap(line) : palette;
        }

        boolean isOnAndCovers(int sprite, int line) {
            int row = line - property(sprite, Y);
            return property(sprite, ON) == 1 && row >= 0 && row < SIDE;
        }

        int linesCovered(int sprite) {
            int y = property(sprite, Y);
            return Math.min(y + SIDE, LINES) - Math.max(y, 0);
        }

        int spritesOn() {
            int found = 0;
            for (int sprite = 0; sprite < sprites; sprite++) {
                found += property(sprite, ON);
            }
            return found;
        }

        int partsNotUsed() {
            int found = 0;
            for (int part = 0; part < sheet.parts; part++) {
                if (!isUsed(part)) {
                    found++;
                }
            }
            return found;
        }

        private boolean isUsed(int part) {
            for (int sprite = 0; sprite < sprites; sprite++) {
                if (property(sprite, PART) == part) {
                    return true;
                }
            }
            return false;
        }
    }

    /** What the lines show of a state. Sets of sprites are numbers with one bit for each sprite. */
    private static final class View {
        private final State state;
        /** The sprites that the line looked at last shows, in the order of turns. */
        private final int[] inTurn = new int[SPRITES];
        /** For each sprite, the columns in which the line looked at last shows pixels of it. */
        private final int[] filled = new int[SPRITES];
        /** For each sprite, the set of the sprites that it meets. */
        private final int[] partners = new int[SPRITES];

        View(State state) {
            this.state = state;
        }

        int countCovering(int line) {
            int found = 0;
            for (int sprite = 0; sprite < state.sprites; sprite++) {
                if (state.isOnAndCovers(sprite, line)) {
                    found++;
                }
            }
            return found;
        }

        int mostCovering() {
            int most = 0;
            for (int line = 0; line < LINES; line++) {
                most = Math.max(most, countCovering(line));
            }
            return most;
        }

        int countOverfullLines() {
            int lines = 0;
            for (int line = 0; line < LINES; line++) {
                if (countCovering(line) > state.limit) {
                    lines++;
                }
            }
            return lines;
        }

        /** Puts the sprites that a line shows in a frame into inTurn, and returns their number. */
        int findShown(int line, int frame) {
            int sprites = state.sprites;
            if (sprites <= 0) {
                return 0;
            }
            int room = Math.min(state.limit, inTurn.length);
            int first = frame * state.stride % sprites;
            int found = 0;
            for (int turn = 0; turn < sprites && found < room; turn++) {
                int sprite = (first + turn) % sprites;
                if (state.isOnAndCovers(sprite, line)) {
                    inTurn[found] = sprite;
                    found++;
                }
            }
            return found;
        }

        int shownAt(int line, int place) {
            int found = findShown(line, state.frame);
            return place >= 0 && place < found && place < inTurn.length ? inTurn[place] : NONE;
        }

        int shownSet(int line, int frame) {
            int found = findShown(line, frame);
            int set = 0;
            for (int place = 0; place < found && place < inTurn.length; place++) {
                set |= 1 << inTurn[place];
            }
            return set;
        }

        int linesShowing(int sprite) {
            int lines = 0;
            for (int line = 0; line < LINES; line++) {
                if (state.isOnAndCovers(sprite, line)
                        && contains(shownSet(line, state.frame), sprite)) {
                    lines++;
                }
            }
            return lines;
        }

        /** The color at a column of a line that shows a set of sprites. */
        int colorAt(int line, int column, int shownSprites) {
            for (int sprite = 0; sprite < state.sprites; sprite++) {
                if (contains(shownSprites, sprite)) {
                    int pixel = pixelOf(sprite, line, column);
                    if (pixel != 0) {
                        int palette = state.property(sprite, PALETTE);
                        return state.colorOf(state.paletteOnLine(palette, line), pixel);
                    }
                }
            }
            return 0;
        }

        /** The pixel of a sprite at a place of the screen; 0 if the sprite is not there. */
        private int pixelOf(int sprite, int line, int column) {
            int row = line - state.property(sprite, Y);
            int columnInPart = column - state.property(sprite, X);
            if (isNoPlaceInPart(row, columnInPart)) {
                return 0;
            }
            int way = state.property(sprite, MIRROR);
            return state.sheet.pixelAt(state.property(sprite, PART), way, row, columnInPart);
        }

        int countColored(int line) {
            int shownSprites = shownSet(line, state.frame);
            int found = 0;
            for (int column = 0; column < COLUMNS; column++) {
                if (colorAt(line, column, shownSprites) != 0) {
                    found++;
                }
            }
            return found;
        }

        float weightOf(int line) {
            int shownSprites = shownSet(line, state.frame);
            float sum = 0.0f;
            for (int sprite = 0; sprite < state.sprites; sprite++) {
                if (contains(shownSprites, sprite)) {
                    sum = sum + state.sheet.shareOf(state.property(sprite, PART));
                }
            }
            return sum;
        }

        int sumOfWholeWeights() {
            int sum = 0;
            for (int line = 0; line < LINES; line++) {
                sum += (int) weightOf(line);
            }
            return sum;
        }

        /** The set of the sprites that a sprite meets. */
        int partnersOf(int sprite) {
            findPartners();
            return sprite >= 0 && sprite < partners.length ? partners[sprite] : 0;
        }

        int countMeetingPairs() {
            findPartners();
            int found = 0;
            for (int sprite = 0; sprite < partners.length; sprite++) {
                found += Integer.bitCount(partners[sprite]);
            }
            // Each pair was found from both sides.
            return found / 2;
        }

        private void findPartners() {
            for (int sprite = 0; sprite < partners.length; sprite++) {
                partners[sprite] = 0;
            }
            for (int line = 0; line < LINES; line++) {
                int shownSprites = shownSet(line, state.frame);
                for (int sprite = 0; sprite < filled.length; sprite++) {
                    filled[sprite] = contains(shownSprites, sprite) ? columnsOf(sprite, line) : 0;
                }
                addPartnersOnLine();
            }
        }

        /** The columns of the screen where a sprite has pixels on a line, one bit for each. */
        private int columnsOf(int sprite, int line) {
            int row = line - state.property(sprite, Y);
            int way = state.property(sprite, MIRROR);
            int bits = state.sheet.filledInRow(state.property(sprite, PART), way, row);
            int x = state.property(sprite, X);
            return x >= 0 ? bits << x : bits >> -x;
        }

        private void addPartnersOnLine() {
            for (int one = 0; one < SPRITES; one++) {
                for (int other = 0; other < one; other++) {
                    if ((filled[one] & filled[other]) != 0) {
                        partners[one] |= 1 << other;
                        partners[other] |= 1 << one;
                    }
                }
            }
        }
    }

    /** Packs the sheet of a state: first a plan, which changes nothing, then its carrying out. */
    private static final class Packing {
        private final State state;
        /** For each part, the lowest one that is alike. */
        private final int[] united = new int[PARTS];
        private final boolean[] stays = new boolean[PARTS];
        private final int[] newNumbers = new int[PARTS];

        Packing(State state) {
            this.state = state;
        }

        /** Returns how many parts will go. */
        int plan(boolean removed) {
            int parts = partsInReach();
            for (int part = 0; part < parts; part++) {
                united[part] = state.sheet.lowestAlike(part);
                stays[part] = !removed && united[part] == part;
            }
            if (removed) {
                letStayWhatIsShown();
            }
            return parts - numberAnew();
        }

        void carryOut() {
            for (int sprite = 0; sprite < state.sprites; sprite++) {
                unite(sprite);
            }
            int parts = partsInReach();
            int kept = 0;
            for (int part = 0; part < parts; part++) {
                if (stays[part]) {
                    // The new number is never above the old one: no part is lost before its turn.
                    state.sheet.putPlanes(kept, state.sheet.lowOf(part), state.sheet.highOf(part));
                    kept++;
                }
            }
            state.sheet.parts = kept;
        }

        private int partsInReach() {
            return Math.min(state.sheet.parts, PARTS);
        }

        private void letStayWhatIsShown() {
            for (int sprite = 0; sprite < state.sprites; sprite++) {
                int part = unitedOf(state.property(sprite, PART));
                if (part >= 0 && part < stays.length) {
                    stays[part] = true;
                }
            }
        }

        /** Gives the parts that stay their new numbers, and returns how many stay. */
        private int numberAnew() {
            int parts = partsInReach();
            int staying = 0;
            for (int part = 0; part < parts; part++) {
                newNumbers[part] = staying;
                if (stays[part]) {
                    staying++;
                }
            }
            return staying;
        }

        private int unitedOf(int part) {
            return part >= 0 && part < united.length ? united[part] : 0;
        }

        private void unite(int sprite) {
            int part = state.property(sprite, PART);
            int lowest = unitedOf(part);
            if (lowest != part) {
                int way = state.property(sprite, MIRROR);
                state.putProperty(sprite, MIRROR, state.sheet.wayToMatch(part, way, lowest));
            }
            if (lowest >= 0 && lowest < newNumbers.length) {
                state.putProperty(sprite, PART, newNumbers[lowest]);
            }
        }
    }

    /** The text of pixels, and what a reading of it gives. */
    private static final class PixelText {
        private final char[] characters = new char[TEXT_LENGTH];
        int length;

        /** The planes of the rows that are read, as in a sheet. */
        long low;
        long high;
        /** The row that is read, and the pixels that it has so far. */
        int row;
        private int width;
        private int lastPixel;
        /** Whether an "x" is allowed next: behind a pixel. */
        private boolean behindPixel;
        /** Whether the digit behind an "x" must come next. */
        private boolean behindTimes;

        void append(char character) {
            if (length >= 0 && length < characters.length) {
                characters[length] = character;
                length++;
            }
        }

        /** Reads the text into the planes. Returns its fault, NONE if it has none. */
        int read() {
            low = 0L;
            high = 0L;
            row = 0;
            width = 0;
            behindPixel = false;
            behindTimes = false;
            for (int index = 0; index < length && index < characters.length; index++) {
                if (!takes(characters[index])) {
                    return index;
                }
            }
            return behindTimes || width < SIDE ? length : NONE;
        }

        /** Reads a character; false if it is not allowed at its place. */
        private boolean takes(char character) {
            if (behindTimes) {
                return takesTimes(character);
            }
            boolean timesAllowed = behindPixel;
            behindPixel = false;
            if (character == 'x') {
                behindTimes = timesAllowed;
                return timesAllowed;
            }
            if (character == '/') {
                return takesEndOfRow();
            }
            if (character == '.') {
                return takesPixel(0);
            }
            return character >= '1' && character <= '3' && takesPixel(character - '0');
        }

        private boolean takesTimes(char character) {
            behindTimes = false;
            if (character < '2' || character > '8') {
                return false;
            }
            // The pixel itself has come once already.
            return puts(lastPixel, character - '0' - 1);
        }

        private boolean takesEndOfRow() {
            if (width < SIDE || row >= SIDE - 1) {
                return false;
            }
            row++;
            width = 0;
            return true;
        }

        private boolean takesPixel(int pixel) {
            lastPixel = pixel;
            behindPixel = true;
            return puts(pixel, 1);
        }

        /** Puts a pixel into the row so often; false if the row has not the room. */
        private boolean puts(int pixel, int times) {
            if (width + times > SIDE) {
                return false;
            }
            for (int time = 0; time < times; time++) {
                int place = SIDE * row + width;
                low |= (long) (pixel & 1) << place;
                high |= (long) (pixel >> 1 & 1) << place;
                width++;
            }
            return true;
        }
    }

    /** The latest states, in a ring whose rows are used again. */
    private static final class History {
        private final State[] states = new State[STATES];
        private int oldest;
        int size;

        History() {
            for (int index = 0; index < STATES; index++) {
                states[index] = new State();
            }
        }

        /** Records a state; when the ring is full, in place of the oldest one. */
        void remember(State state) {
            stateAt(size).copyFrom(state);
            if (size < STATES) {
                size++;
            } else {
                oldest = (oldest + 1) % STATES;
            }
        }

        /** Removes the latest state and writes it into the given one. */
        void takeBack(State state) {
            if (size > 0) {
                size--;
                state.copyFrom(stateAt(size));
            }
        }

        private State stateAt(int age) {
            return states[Math.floorMod(oldest + age, STATES)];
        }
    }
}
