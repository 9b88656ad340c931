/** The sentences on packing: promise 7. */
final class PackSentences implements Errors {
    /** As itself when mirrored in both: one in two corners; and this one mirrored in x. */
    private static final String FALLING = "1.x7/.x8/.x8/.x8/.x8/.x8/.x8/.x71";
    private static final String RISING = ".x71/.x8/.x8/.x8/.x8/.x8/.x8/1.x7";

    private PackSentences() {
    }

    @Holds(at = "Terms", words = "To pack the sheet unites parts that are alike: of all parts that"
            + " are alike the one with the lowest number stays")
    static void theLowestStays(Check check) {
        for (int other = 0; other < 4; other++) {
            for (int one = 0; one < 4; one++) {
                Run run = new Run(check).parts(Scenes.ODD[one], Scenes.ODD[other]).due("pack(false)", 1);
                run.due("count(0)", 1).text(Scenes.ODD[one]);
                // The part that stays is not mirrored itself.
                Run same = new Run(check).parts(Scenes.ODD[one]);
                check.holds("part " + one + " stays as it is", Portrait.ofState(same.calls())
                        .equals(Portrait.ofState(run.calls())));
            }
        }
        Run three = new Run(check).parts("2.x7", Scenes.ODD[2], Scenes.ODD[0], "3.x7", Scenes.ODD[1]);
        three.due("pack(false)", 2).due("count(0)", 3).due("pixel(0, 0, 0)", 2);
        three.due("pixel(1, 7, 0)", 1).due("pixel(2, 0, 0)", 3);
        new Run(check).parts("1.x7", "2.x7").refused("pack(false)", NONE);
        new Run(check).parts("1.x7", "1.x61").refused("pack(false)", NONE);
        // None is alike to another one by way of a third one only.
        new Run(check).times(24, "addPart()").due("pack(false)", 23).due("count(0)", 1);
    }

    @Holds(at = "Terms", words = "sprites that show another one of them show this one, mirrored so"
            + " that the screen stays as it is")
    static void theScreenStays(Check check) {
        for (int other = 0; other < 4; other++) {
            for (int way = 0; way < 4; way++) {
                Run run = new Run(check).parts("2x8", Scenes.ODD[0], Scenes.ODD[other]);
                run.with("addSprite(2, 3, 5)", "set(0, 1, " + way + ")");
                Run before = run.copy();
                run.with("pack(false)").due("sprite(0, 0)", 1).due("sprite(0, 1)", way ^ other);
                for (int place = 0; place < 64; place++) {
                    String color = "color(" + (5 + place / 8) + ", " + (3 + place % 8) + ")";
                    run.due(color, before.answer(color));
                }
                run.due("sprite(0, 2)", 0).due("sprite(0, 3)", 1).due("sprite(0, 4)", 3)
                        .due("sprite(0, 5)", 5);
            }
        }
        // A sprite that is off shows its part too, and one that is beyond the limit does.
        Run hidden = new Run(check).parts(Scenes.ODD[0], Scenes.ODD[1]).with("addSprite(1, 0, 0)",
                "addSprite(1, 0, 0)", "set(0, 3, 0)", "setLimit(1)", "pack(false)");
        hidden.due("sprite(0, 0)", 0).due("sprite(0, 1)", 1).due("sprite(1, 0)", 0);
        hidden.due("sprite(1, 1)", 1).due("sprite(0, 3)", 0);
    }

    @Holds(at = "Terms", words = "of several ways to mirror, the one with the lowest number that"
            + " makes the pixels the same")
    static void theLowestWay(Check check) {
        ways(check, FALLING, RISING, 1, 0, 0, 1);
        ways(check, FALLING, FALLING, 0, 1, 1, 0);
        ways(check, "12....21", ".x8/.x8/.x8/.x8/.x8/.x8/.x8/12....21", 2, 2, 0, 0);
        ways(check, "12....21", "12....21", 0, 0, 2, 2);
        ways(check, "1.x7/.x8/.x8/.x8/.x8/.x8/.x8/1.x7",
                ".x71/.x8/.x8/.x8/.x8/.x8/.x8/.x71", 1, 0, 1, 0);
        ways(check, "", "", 0, 0, 0, 0);
        ways(check, Scenes.ODD[0], Scenes.ODD[0], 0, 1, 2, 3);
        ways(check, Scenes.ODD[0], Scenes.ODD[3], 3, 2, 1, 0);
    }

    /** Sprites that show the second part in the ways 0 to 3 show the first one in these ways. */
    private static void ways(Check check, String one, String other, int... due) {
        Run run = new Run(check).parts(one, other);
        for (int way = 0; way < 4; way++) {
            run.with("addSprite(1, 0, 0)", "set(" + way + ", 1, " + way + ")");
        }
        run.due("pack(false)", 1);
        for (int way = 0; way < 4; way++) {
            run.due("sprite(" + way + ", 0)", 0).due("sprite(" + way + ", 1)", due[way]);
        }
    }

    @Holds(at = "Terms", words = "sprites that show it already stay as they are.")
    static void whoShowsItStays(Check check) {
        // Each of these could be shown in the way 0 as well.
        Run run = new Run(check).parts("", "", FALLING, RISING);
        for (int way = 0; way < 4; way++) {
            run.with("addSprite(0, 0, 0)", "set(" + way + ", 1, " + way + ")");
        }
        run.with("addSprite(2, 0, 0)", "set(4, 1, 3)", "addSprite(2, 0, 0)", "set(5, 1, 2)");
        run.due("pack(false)", 2);
        for (int way = 0; way < 4; way++) {
            run.due("sprite(" + way + ", 1)", way).due("sprite(" + way + ", 0)", 0);
        }
        run.due("sprite(4, 1)", 3).due("sprite(4, 0)", 1).due("sprite(5, 1)", 2);
        // Nothing is united, but a part goes: the ways stay.
        Run alone = new Run(check).parts("1.x7", FALLING).with("addSprite(1, 0, 0)", "set(0, 1, 3)",
                "pack(true)");
        alone.due("sprite(0, 0)", 0).due("sprite(0, 1)", 3);
    }

    @Holds(at = "Terms", words = "Parts that no sprite shows (whether it is on or off) are removed"
            + " only if this is told.")
    static void removedIfTold(Check check) {
        Run run = new Run(check).parts("1.x7", "2.x7", "3.x7").with("addSprite(1, 0, 0)");
        run.refused("pack(false)", NONE).due("count(7)", 2).copy().due("pack(true)", 2)
                .due("count(0)", 1).due("pixel(0, 0, 0)", 2).due("sprite(0, 0)", 0);
        Run off = run.copy().with("set(0, 3, 0)").refused("pack(false)", NONE);
        off.due("pack(true)", 2).due("count(0)", 1).due("pixel(0, 0, 0)", 2);
        Run none = new Run(check).parts("1.x7", "2.x7").refused("pack(false)", NONE);
        none.due("pack(true)", 2).due("count(0)", 0).refused("pack(true)", NONE);
        // Who lies beyond the limit, or under another one, shows a part as well.
        Run under = new Run(check).parts("1.x7", "2.x7").with("addSprite(0, 0, 0)",
                "addSprite(1, 0, 0)", "setLimit(1)").refused("pack(true)", NONE);
        under.due("count(7)", 0);
    }

    @Holds(at = "Terms",
            words = "The numbers of the parts that stay become 0, 1, and so on, in their order.")
    static void newNumbers(Check check) {
        Run run = new Run(check).parts("1.x7", "2.x7", "1.x7", "3.x7", ".x72", "11.x6", "22.x6");
        for (int sprite = 0; sprite < 7; sprite++) {
            run.with("addSprite(" + (6 - sprite) + ", 0, 0)");
        }
        Run united = run.copy().due("pack(false)", 2).due("count(0)", 5);
        String[] rows = {"1.......", "2.......", "3.......", "11......", "22......"};
        for (int part = 0; part < 5; part++) {
            united.row(part, 0, rows[part]);
        }
        int[] shown = {4, 3, 1, 2, 0, 1, 0};
        for (int sprite = 0; sprite < 7; sprite++) {
            united.due("sprite(" + sprite + ", 0)", shown[sprite]);
        }
        united.due("pixel(5, 0, 0)", UNKNOWN).due("addPart()", 5).due("share(5)", 0);
        // The first one goes, the last one goes, and one in the middle.
        Run removed = new Run(check).parts("1.x7", "2.x7", "3.x7", "11.x6", "22.x6");
        removed.with("addSprite(3, 0, 0)", "addSprite(1, 0, 0)").due("pack(true)", 3);
        removed.row(0, 0, "2.......").row(1, 0, "11......").due("sprite(0, 0)", 1);
        removed.due("sprite(1, 0)", 0).due("count(0)", 2);
    }

    // ---- Promise 7

    @Holds(at = "Promise 7", words = "Packs the sheet.")
    static void pack(Check check) {
        new Run(check).refused("pack(false)", NONE).refused("pack(true)", NONE);
        Run full = new Run(check).times(24, "addPart()");
        for (int part = 0; part < 24; part++) {
            full.with("setPixel(" + part + ", 0, 0, " + (part / 8 + 1) + ")");
            if (part < 20) {
                full.with("addSprite(" + (23 - part) + ", 0, 0)");
            }
        }
        Run packed = full.copy().due("pack(false)", 21).due("count(0)", 3);
        for (int sprite = 0; sprite < 20; sprite++) {
            packed.due("sprite(" + sprite + ", 0)", 2 - sprite / 8);
        }
        packed.due("pixel(0, 0, 0)", 1).due("pixel(1, 0, 0)", 2).due("pixel(2, 0, 0)", 3);
        packed.refused("pack(false)", NONE).refused("pack(true)", NONE);
        packed.due("undo()", 4).due("count(0)", 24).due("sprite(0, 0)", 23);
        full.due("pack(true)", 21).due("count(0)", 3);
    }

    @Holds(at = "Promise 7", words = "This is an act.")
    static void packIsAnAct(Check check) {
        Run run = new Run(check).parts(Scenes.ODD[0], Scenes.ODD[1], "1.x7").with("addSprite(1, 0, 0)",
                "set(0, 1, 2)");
        run.change("pack(false)").change("pack(true)").times(5, "next(1)").change("pack(true)");
        // One that answers NONE records nothing.
        run.with("pack(true)", "undo()").due("count(12)", 4).with("pack(true)").due("count(12)", 5);
        run.with("undo()").with("pack(false)", "undo()", "undo()").due("count(12)", 3);
        new Run(check).with("addPart()").due("pack(false)", NONE).due("count(12)", 1)
                .due("undo()", 0).due("count(0)", 0).due("pack(true)", NONE).due("count(12)", 0);
    }

    @Holds(at = "Promise 7",
            words = "`removed`: whether parts that no sprite shows (behind the uniting) are removed")
    static void packRemoved(Check check) {
        // The part 0 is shown behind the uniting only, the part 2 before it only.
        Run run = new Run(check).parts(Scenes.ODD[0], "2.x7", Scenes.ODD[3], "2.x7");
        run.with("addSprite(2, 0, 0)");
        run.copy().due("pack(false)", 2).due("count(0)", 2).due("count(7)", 1);
        run.due("pack(true)", 3).due("count(0)", 1).due("count(7)", 0).due("sprite(0, 0)", 0);
        run.due("sprite(0, 1)", 3).row(0, 0, "1.23...1");
        // Alike, and no sprite shows one of them: one stays unless it is told, or none.
        Run alike = new Run(check).parts("1.x7", "1.x7");
        alike.copy().due("pack(false)", 1).due("count(0)", 1);
        alike.due("pack(true)", 2).due("count(0)", 0);
    }

    @Holds(at = "Promise 7", words = "Returns the number of parts that go; NONE if none goes.")
    static void packAnswers(Check check) {
        for (int parts = 1; parts <= 24; parts++) {
            Run run = new Run(check).times(parts, "addPart()").with("addSprite(0, 0, 0)");
            run.copy().due("pack(true)", parts == 1 ? NONE : parts - 1);
            run.copy().due("pack(false)", parts == 1 ? NONE : parts - 1);
            new Run(check).times(parts, "addPart()").due("pack(true)", parts);
        }
        new Run(check).refused("pack(true)", NONE).refused("pack(false)", NONE);
        new Run(check).parts("1.x7").with("addSprite(0, 0, 0)").refused("pack(true)", NONE);
    }
}
