/** The sentences on the history and the snapshots: promises 16 to 18. */
final class HistorySentences implements Errors {
    private static final String[] ACTS = {"addPart()", "setPixel(0, 1, 1, 2)", "draw(2)",
        "pack(false)", "pack(true)", "setColor(0, 1, 9)", "addSprite(0, 1, 1)", "move(0, 3, 4)",
        "set(0, 0, 1)", "set(0, 1, 1)", "set(0, 2, 1)", "set(0, 3, 0)", "swap(0, 31, 1, 2)",
        "setLimit(9)", "setStride(9)", "next(9)", "restore(1)"};
    private static final String[] NO_ACTS = {"type('1')", "clearText()", "keep(0)", "keep(1)",
        "pixel(0, 0, 0)", "share(0)", "alike(0, 1)", "color(0, 0)", "sprite(0, 8)", "line(0, 2)",
        "weight(0)", "shown(0, 0)", "meet(0, 1)", "shownIn(3, 1)", "count(6)"};

    private HistorySentences() {
    }

    /** An object in which each act has something to do. */
    private static Run busy(Check check) {
        Run run = new Run(check).parts("12.x6/3.x7", ".x621/.x73", "1x8").with("keep(1)");
        run.with("addSprite(0, 0, 0)", "addSprite(1, 3, 3)", "addSprite(2, 4, 0)", "set(1, 1, 2)",
                "swap(2, 9, 3, 0)", "setColor(3, 2, 60)", "setLimit(2)", "setStride(3)", "next(11)");
        return run.text("1x8/2x8");
    }

    // ---- Terms: History

    @Holds(at = "Terms", words = "A history of at most 5 states is kept")
    static void atMostFive(Check check) {
        Run run = new Run(check).due("count(12)", 0).due("undo()", NONE);
        for (int frame = 1; frame <= 13; frame++) {
            run.with("next(1)").due("count(12)", Math.min(frame, 5));
        }
        for (int left = 4; left >= 0; left--) {
            run.due("undo()", left).due("count(12)", left).due("count(8)", 8 + left);
        }
        run.refused("undo()", NONE).due("count(8)", 8);
        // Exactly five.
        Run five = new Run(check).times(5, "next(1)").due("count(12)", 5);
        five.times(5, "undo()").due("count(8)", 0).refused("undo()", NONE);
        Run six = new Run(check).times(6, "next(1)").due("count(12)", 5);
        six.times(5, "undo()").due("count(8)", 1).refused("undo()", NONE);
    }

    @Holds(at = "Terms", words = "when one more is recorded, the oldest one is dropped")
    static void theOldestIsDropped(Check check) {
        // All ways to go up and down a few times, with the frames that should be there.
        for (int first = 0; first < 12; first++) {
            for (int back = 0; back <= Math.min(first, 5); back++) {
                for (int again = 0; again < 8; again++) {
                    Run run = new Run(check).times(first, "next(1)").times(back, "undo()");
                    run.times(again, "next(1)");
                    int states = Math.min(5, Math.min(5, first) - back + again);
                    run.due("count(12)", states);
                    for (int left = states - 1; left >= 0; left--) {
                        run.due("undo()", left).due("count(8)", first - back + again - states + left);
                    }
                    run.due("undo()", NONE);
                }
            }
        }
        Run parts = new Run(check).times(24, "addPart()").times(5, "undo()").due("count(0)", 19);
        parts.refused("undo()", NONE);
    }

    @Holds(at = "Terms", words = "undo() removes and restores the latest one.")
    static void undoRemovesTheLatest(Check check) {
        Run run = new Run(check).with("setLimit(7)", "setStride(3)", "next(5)");
        run.due("undo()", 2).due("count(8)", 0).due("count(10)", 3).due("count(9)", 7);
        run.due("undo()", 1).due("count(10)", 0).due("count(9)", 7).with("setStride(8)");
        run.due("undo()", 1).due("count(10)", 0).due("undo()", 0).due("count(9)", 4);
        run.refused("undo()", NONE);
        // Each state of a busy history comes back as it was.
        Run busy = new Run(check).with("addPart()");
        String[] portraits = new String[6];
        String[] acts = {"setPixel(0, 3, 3, 3)", "addSprite(0, 4, 4)", "set(0, 1, 3)",
            "setColor(0, 3, 40)", "swap(0, 9, 0, 2)"};
        for (int state = 0; state < 5; state++) {
            portraits[state] = Portrait.ofState(busy.calls());
            busy.with(acts[state]);
        }
        for (int state = 4; state >= 0; state--) {
            busy.due("undo()", state);
            check.holds("the state " + state + " comes back",
                    Portrait.ofState(busy.calls()).equals(portraits[state]));
        }
    }

    @Holds(at = "Terms", words = "Each call of a method that is described as an act, and that returns"
            + " no error and not NONE, records the state before it.")
    static void actsRecord(Check check) {
        Run full = busy(check);
        Run some = busy(check).with("undo()", "undo()");
        for (String act : ACTS) {
            full.change(act);
            some.change(act);
        }
        for (String call : NO_ACTS) {
            some.copy().with(call).due("count(12)", 3).due("undo()", 2);
            full.copy().with(call).due("count(12)", 5).due("undo()", 4);
        }
        some.copy().due("undo()", 2).due("undo()", 1).due("undo()", 0).due("undo()", NONE);
        // Errors and NONE record nothing.
        for (String call : new String[] {"setPixel(9, 0, 0, 0)", "draw(9)", "setColor(4, 1, 0)",
            "addSprite(9, 0, 0)", "move(9, 0, 0)", "set(9, 0, 0)", "swap(1, 0, 0, 0)",
            "setLimit(0)", "setStride(20)", "next(0)", "restore(0)", "restore(2)"}) {
            Run refused = some.copy();
            check.holds(call + " is refused", refused.answer(call) < 0);
            refused.due("count(12)", 3).due("undo()", 2);
        }
    }

    @Holds(at = "Terms", words = "There are two slots for snapshots, empty at first.")
    static void twoSlots(Check check) {
        Run run = new Run(check).refused("restore(0)", NONE).refused("restore(1)", NONE);
        run.range("keep(%)", 0, 1, UNKNOWN).with("next(3)", "keep(1)").refused("restore(0)", NONE);
        run.range("keep(%)", 0, 1, UNKNOWN).with("next(4)", "keep(0)").range("restore(%)", 0, 1,
                UNKNOWN);
        run.due("restore(1)", 3).due("restore(0)", 7).due("restore(1)", 3).due("count(8)", 3);
    }

    @Holds(at = "Terms",
            words = "A state is everything but the text, the history and the snapshots.")
    static void whatAStateIs(Check check) {
        Run run = busy(check).with("keep(0)");
        String state = Portrait.ofState(run.calls());
        Run changed = run.copy().with("setPixel(0, 0, 0, 3)", "draw(1)", "setColor(1, 3, 0)",
                "move(0, 9, 9)", "set(1, 1, 3)", "set(1, 2, 3)", "set(2, 3, 0)", "set(0, 0, 2)",
                "swap(0, 31, 1, 1)", "setLimit(19)", "setStride(19)", "next(99)", "addPart()",
                "addSprite(3, 1, 1)", "pack(true)", "clearText()", "type('a')", "keep(1)");
        check.holds("something is changed", !Portrait.ofState(changed.calls()).equals(state));
        changed.with("restore(0)");
        check.holds("all comes back", Portrait.ofState(changed.calls()).equals(state));
        // The text, the history and the other snapshot are not brought back.
        changed.due("count(13)", 1).due("count(12)", 5).due("draw(0)", -100);
        changed.with("undo()").due("count(13)", 1).due("count(8)", 110).due("restore(1)", 110);
        Run text = new Run(check).parts("").text("1x8").with("keep(0)", "next(1)", "type('/')");
        text.with("undo()").due("count(13)", 4).with("restore(0)").due("count(13)", 4);
        text.with("clearText()", "undo()").due("count(13)", 0);
    }

    @Holds(at = "Terms", words = "A state is everything but")
    static void aFullState(Check check) {
        // The last ones of all there can be are in a state as the first ones are.
        Run run = new Run(check).times(24, "addPart()").times(20, "addSprite(0, 0, 0)");
        run.with("setPixel(23, 7, 7, 3)", "set(19, 0, 23)", "set(19, 1, 3)", "set(19, 2, 3)",
                "move(19, 31, 31)", "setColor(3, 3, 63)", "swap(31, 31, 2, 3)", "keep(0)");
        String state = Portrait.ofState(run.calls());
        for (String act : new String[] {"setPixel(23, 7, 7, 1)", "setPixel(23, 7, 7, 2)",
            "set(19, 0, 22)", "set(19, 1, 0)", "set(19, 2, 0)", "set(19, 3, 0)",
            "move(19, 30, 31)", "move(19, 31, 30)", "setColor(3, 3, 0)", "swap(31, 31, 0, 0)",
            "swap(31, 31, 2, 1)", "swap(31, 31, 0, 3)", "pack(false)", "pack(true)"}) {
            run.change(act);
            Run restored = run.copy().with(act, "restore(0)");
            check.holds("behind " + act, Portrait.ofState(restored.calls()).equals(state));
        }
    }

    // ---- Promise 16

    @Holds(at = "Promise 16", words = "Restores the latest state of the history.")
    static void undo(Check check) {
        for (String act : ACTS) {
            busy(check).change(act);
        }
        // undo() is no act, and leaves the text and the snapshots.
        Run run = new Run(check).times(3, "next(1)").due("undo()", 2).due("undo()", 1);
        run.due("count(8)", 1).due("undo()", 0).due("count(8)", 0);
        Run kept = new Run(check).with("next(1)", "keep(0)", "type('1')", "undo()");
        kept.due("count(13)", 1).due("restore(0)", 1).due("undo()", 0).due("restore(0)", 1);
    }

    @Holds(at = "Promise 16",
            words = "Returns the number of states that are left; NONE if the history is empty.")
    static void undoAnswers(Check check) {
        new Run(check).refused("undo()", NONE).due("undo()", NONE).due("undo()", NONE);
        for (int acts = 1; acts <= 7; acts++) {
            Run run = new Run(check).times(acts, "next(1)");
            for (int left = Math.min(acts, 5) - 1; left >= 0; left--) {
                run.due("undo()", left);
            }
            run.refused("undo()", NONE).due("undo()", NONE);
        }
        // What is kept in the slots is none of the history.
        new Run(check).with("keep(0)", "keep(1)").refused("undo()", NONE);
        // Nor is what was refused.
        new Run(check).due("setLimit(0)", BAD_VALUE).refused("undo()", NONE);
    }

    // ---- Promise 17

    @Holds(at = "Promise 17", words = "Takes a snapshot of the state, in place of what is there.")
    static void keep(Check check) {
        for (int slot = 0; slot < 2; slot++) {
            Run run = busy(check).with("keep(" + slot + ")");
            String state = Portrait.ofState(run.calls());
            run.with("next(5)", "addPart()", "move(0, 1, 1)", "setPixel(0, 0, 0, 3)");
            run.with("restore(" + slot + ")");
            check.holds("the slot " + slot, Portrait.ofState(run.calls()).equals(state));
            run.with("next(2)", "setLimit(11)", "keep(" + slot + ")").due("count(12)", 5);
            String later = Portrait.ofState(run.calls());
            run.with("setLimit(3)", "restore(" + slot + ")");
            check.holds("what is new in it", Portrait.ofState(run.calls()).equals(later));
        }
        // It is no act, and what happens then does not change it.
        Run run = new Run(check).due("keep(0)", 0).due("count(12)", 0).with("addPart()", "next(1)");
        run.due("restore(0)", 0).due("count(0)", 0).with("addPart()", "keep(0)", "undo()");
        run.due("restore(0)", 0).due("count(0)", 1);
    }

    @Holds(at = "Promise 17", words = "`slot`: 0 or 1")
    static void keepSlot(Check check) {
        new Run(check).range("keep(%)", 0, 1, UNKNOWN);
        new Run(check).with("next(1)", "keep(0)", "keep(1)", "next(1)").range("keep(%)", 0, 1,
                UNKNOWN);
        // Each slot is one of its own.
        new Run(check).with("keep(0)", "next(1)", "keep(1)", "next(1)").due("restore(0)", 0)
                .due("restore(1)", 1);
    }

    @Holds(at = "Promise 17", words = "Returns the frame; UNKNOWN.")
    static void keepAnswers(Check check) {
        Run run = new Run(check).due("keep(0)", 0).due("keep(1)", 0).with("next(1)");
        run.due("keep(0)", 1).with("next(100000)").due("keep(1)", 100001).refused("keep(2)", UNKNOWN);
        run.refused("keep(-1)", UNKNOWN).due("restore(0)", 1).due("keep(1)", 1);
    }

    // ---- Promise 18

    @Holds(at = "Promise 18", words = "Restores the state of a snapshot, which stays.")
    static void restore(Check check) {
        Run run = busy(check);
        for (int slot = 0; slot < 2; slot++) {
            Run kept = run.copy().with("keep(" + slot + ")");
            String state = Portrait.ofState(kept.calls());
            for (String act : ACTS) {
                // The slot 1 holds another state until it is kept anew.
                Run restored = kept.copy().with(act, "restore(" + slot + ")");
                check.holds("behind " + act, Portrait.ofState(restored.calls()).equals(state));
                restored.with("setPixel(0, 5, 5, 3)", "next(1)", "restore(" + slot + ")");
                check.holds("once more", Portrait.ofState(restored.calls()).equals(state));
            }
        }
        // Also behind an undo, and if it brings back what there is.
        Run same = new Run(check).with("next(4)", "keep(0)", "restore(0)", "undo()", "undo()");
        same.due("count(8)", 0).due("restore(0)", 4).due("restore(0)", 4).due("count(12)", 2);
    }

    @Holds(at = "Promise 18", words = "This is an act.")
    static void restoreIsAnAct(Check check) {
        Run run = busy(check).with("keep(0)").act("restore(0)").change("restore(1)");
        run.with("undo()", "undo()").change("restore(0)").change("restore(1)");
        new Run(check).with("keep(0)").act("restore(0)").refused("restore(1)", NONE);
    }

    @Holds(at = "Promise 18", words = "`slot`: 0 or 1")
    static void restoreSlot(Check check) {
        new Run(check).with("keep(0)", "keep(1)", "next(1)").range("restore(%)", 0, 1, UNKNOWN);
        Run run = new Run(check).with("next(1)", "keep(0)", "next(1)", "keep(1)", "next(1)");
        run.behind("restore(0)", "count(8)", 1).behind("restore(1)", "count(8)", 2);
        // No slot, whether there are snapshots or not.
        new Run(check).refused("restore(-1)", UNKNOWN).refused("restore(2)", UNKNOWN);
    }

    @Holds(at = "Promise 18",
            words = "Returns the frame then; UNKNOWN; NONE if there is no such snapshot.")
    static void restoreAnswers(Check check) {
        Run run = new Run(check).refused("restore(0)", NONE).refused("restore(1)", NONE);
        run.refused("restore(2)", UNKNOWN).refused("restore(-1)", UNKNOWN).with("keep(0)");
        run.refused("restore(1)", NONE).with("next(100000)").due("restore(0)", 0);
        run.with("next(3)", "keep(1)", "next(1)").due("restore(1)", 3).due("restore(0)", 0);
        Run other = new Run(check).with("keep(1)").refused("restore(0)", NONE).due("restore(1)", 0);
        other.refused("restore(2)", UNKNOWN);
    }
}
