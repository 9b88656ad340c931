import java.util.ArrayList;
import java.util.List;
import java.util.function.ToIntFunction;

/** The promises 16 to 18: undo, snapshots; and which calls are acts. */
public final class HistoryTest {
    private static final Check CHECK = new Check();

    public static void main(String[] args) {
        undo();
        atMostFive();
        actsAreRecorded();
        othersAreNot();
        keep();
        keepErrors();
        restore();
        restoreErrors();
        snapshotsStandBesideTheHistory();
        CHECK.end("HistoryTest");
    }

    /** An object in which each act and each question has something to do. */
    private static SpriteLines busy() {
        SpriteLines x = Scenes.parts("12.x6/3.x7", ".x621/.x73", "1x8");
        x.addSprite(0, 0, 0);
        x.addSprite(1, 3, 3);
        x.addSprite(1, 4, 0);
        x.addSprite(2, 4, 0);
        x.set(1, 1, 2);
        x.set(2, 2, 3);
        x.set(3, 3, 0);
        x.swap(2, 9, 3, 0);
        x.setColor(3, 2, 60);
        x.setLimit(2);
        x.setStride(3);
        x.next(11);
        Scenes.type(x, "1x8/2x8");
        return x;
    }

    private static List<ToIntFunction<SpriteLines>> acts() {
        List<ToIntFunction<SpriteLines>> acts = new ArrayList<>();
        acts.add(x -> x.addPart());
        acts.add(x -> x.setPixel(0, 1, 1, 2));
        acts.add(x -> x.draw(2));
        acts.add(x -> x.pack(false));
        acts.add(x -> x.pack(true));
        acts.add(x -> x.setColor(0, 1, 9));
        acts.add(x -> x.addSprite(0, 1, 1));
        acts.add(x -> x.move(0, 3, 4));
        acts.add(x -> x.set(0, 0, 1));
        acts.add(x -> x.set(0, 1, 1));
        acts.add(x -> x.set(0, 2, 1));
        acts.add(x -> x.set(0, 3, 0));
        acts.add(x -> x.swap(0, 31, 1, 2));
        acts.add(x -> x.setLimit(9));
        acts.add(x -> x.setStride(9));
        acts.add(x -> x.next(9));
        acts.add(x -> x.restore(1));
        return acts;
    }

    private static void undo() {
        SpriteLines x = new SpriteLines();
        CHECK.due("undo() of nothing", x.undo(), SpriteLines.NONE);
        x.addPart();
        x.addSprite(0, 1, 2);
        x.move(0, 3, 4);
        CHECK.due("undo()", x.undo(), 2);
        CHECK.due("x", x.sprite(0, 4), 1);
        CHECK.due("undo()", x.undo(), 1);
        CHECK.due("sprites", x.count(1), 0);
        CHECK.due("undo()", x.undo(), 0);
        CHECK.due("parts", x.count(0), 0);
        CHECK.due("undo() of nothing", x.undo(), SpriteLines.NONE);
        CHECK.due("states", x.count(12), 0);
        // The removed states do not come back.
        x.addPart();
        CHECK.due("undo()", x.undo(), 0);
        CHECK.due("parts", x.count(0), 0);
    }

    private static void atMostFive() {
        SpriteLines x = new SpriteLines();
        for (int frames = 1; frames <= 23; frames++) {
            x.next(1);
            CHECK.due("states", x.count(12), Math.min(frames, 5));
        }
        for (int left = 4; left >= 0; left--) {
            CHECK.due("undo()", x.undo(), left);
            CHECK.due("frame", x.count(8), 18 + left);
        }
        CHECK.due("undo()", x.undo(), SpriteLines.NONE);
        CHECK.due("frame", x.count(8), 18);
        for (int round = 0; round < 4; round++) {
            x.next(1);
            x.next(1);
            x.undo();
        }
        CHECK.due("frame", x.count(8), 22);
        CHECK.due("states", x.count(12), 4);
        for (int left = 3; left >= 0; left--) {
            CHECK.due("undo()", x.undo(), left);
            CHECK.due("frame", x.count(8), 18 + left);
        }
    }

    private static void actsAreRecorded() {
        int number = 0;
        for (ToIntFunction<SpriteLines> act : acts()) {
            String name = "act " + number;
            SpriteLines x = busyWithThreeStates();
            String before = Scenes.told(x);
            CHECK.holds(name + " is no error", act.applyAsInt(x) >= 0);
            CHECK.holds(name + " changes what is told", !Scenes.told(x).equals(before));
            // Another object, as all that is told twice is most of the calls of one.
            SpriteLines y = busyWithThreeStates();
            act.applyAsInt(y);
            CHECK.due(name + ": states", y.count(12), 4);
            CHECK.due(name + ": undo()", y.undo(), 3);
            CHECK.holds(name + " is undone", Scenes.told(y).equals(before));
            CHECK.due(name + ": the text stays", y.count(13), 7);
            number++;
        }
    }

    private static SpriteLines busyWithThreeStates() {
        SpriteLines x = busy();
        x.keep(1);
        x.undo();
        x.undo();
        return x;
    }

    private static void othersAreNot() {
        SpriteLines x = busy();
        x.undo();
        String told = Scenes.told(x);
        x.type('1');
        x.clearText();
        x.keep(0);
        x.keep(1);
        x.pixel(0, 0, 0);
        x.share(0);
        x.alike(0, 1);
        x.color(0, 0);
        x.sprite(0, 8);
        x.line(0, 2);
        x.weight(0);
        x.shown(0, 0);
        x.meet(0, 1);
        x.shownIn(0, 1);
        x.count(6);
        CHECK.due("states", x.count(12), 4);
        CHECK.holds("all as before", Scenes.told(x).equals(told));
        CHECK.due("undo()", x.undo(), 3);
    }

    private static void keep() {
        SpriteLines x = new SpriteLines();
        CHECK.due("keep(0)", x.keep(0), 0);
        x.next(7);
        CHECK.due("keep(1)", x.keep(1), 7);
        x.next(5);
        CHECK.due("states", x.count(12), 2);
        CHECK.due("restore(0)", x.restore(0), 0);
        CHECK.due("restore(1)", x.restore(1), 7);
        x.next(3);
        CHECK.due("keep(0) in place of it", x.keep(0), 10);
        CHECK.due("restore(1)", x.restore(1), 7);
        CHECK.due("restore(0)", x.restore(0), 10);
    }

    private static void keepErrors() {
        SpriteLines x = new SpriteLines();
        x.next(1);
        for (int slot : new int[] {-1, 2, 3, Integer.MAX_VALUE, Integer.MIN_VALUE}) {
            CHECK.due("keep(" + slot + ")", x.keep(slot), SpriteLines.UNKNOWN);
        }
        CHECK.due("restore(0)", x.restore(0), SpriteLines.NONE);
        CHECK.due("restore(1)", x.restore(1), SpriteLines.NONE);
        CHECK.due("states", x.count(12), 1);
    }

    private static void restore() {
        int slot = 0;
        for (ToIntFunction<SpriteLines> act : acts()) {
            SpriteLines x = busy();
            CHECK.due("keep", x.keep(slot), 11);
            String told = Scenes.told(x);
            act.applyAsInt(x);
            CHECK.due("restore", x.restore(slot), 11);
            CHECK.holds("all as kept", Scenes.told(x).equals(told));
            CHECK.due("states", x.count(12), 5);
            CHECK.due("the text stays", x.count(13), 7);
            slot = 1 - slot;
        }
    }

    private static void restoreErrors() {
        SpriteLines x = new SpriteLines();
        x.next(1);
        x.keep(1);
        x.next(1);
        CHECK.due("restore(0)", x.restore(0), SpriteLines.NONE);
        for (int slot : new int[] {-1, 2, 3, Integer.MAX_VALUE, Integer.MIN_VALUE}) {
            CHECK.due("restore(" + slot + ")", x.restore(slot), SpriteLines.UNKNOWN);
        }
        CHECK.due("states", x.count(12), 2);
        CHECK.due("frame", x.count(8), 2);
    }

    /** undo() changes no snapshot, and a snapshot is none of the history's states. */
    private static void snapshotsStandBesideTheHistory() {
        SpriteLines x = new SpriteLines();
        x.next(1);
        x.keep(0);
        x.undo();
        CHECK.due("undo() of nothing", x.undo(), SpriteLines.NONE);
        CHECK.due("restore(0)", x.restore(0), 1);
        CHECK.due("undo() of restore", x.undo(), 0);
        CHECK.due("frame", x.count(8), 0);
        CHECK.due("the snapshot stays", x.restore(0), 1);
        x.next(4);
        CHECK.due("it holds no history", x.count(12), 2);
        x.restore(0);
        CHECK.due("nor brings one back", x.count(12), 3);
        CHECK.due("undo()", x.undo(), 2);
        CHECK.due("frame", x.count(8), 5);
    }
}
