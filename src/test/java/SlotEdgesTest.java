/**
 * The promises 26 and 27, one test for each sentence, at its boundary, below and above it.
 * A comment ahead of a test is the sentence that it holds to.
 */
final class SlotEdgesTest {
    private static final int[] NO_SLOTS = {-1, 2, 3, Integer.MIN_VALUE, Integer.MAX_VALUE};

    private SlotEdgesTest() {
    }

    // "slot: 0 or 1"; "Throws `IndexOutOfBoundsException` if there is no such save slot"
    static void promise26_slotsZeroAndOne() {
        for (int slot : NO_SLOTS) {
            Fresh.refusedByAll(Check.NO_SUCH, x -> x.save(slot));
        }
        for (int slot = 0; slot <= 1; slot++) {
            GutterBoats x = new GutterBoats();
            int other = 1 - slot;
            Check.due("save", x.save(slot), 0);
            Check.due("restore", x.restore(slot), 0);
            Check.throwsIt(Check.NOT_NOW, () -> x.restore(other));
            Check.due("restore", x.restore(slot), 0);
        }
    }

    // "Returns the minutes.": none, and many
    static void promise26_answersTheMinutes() {
        GutterBoats x = new GutterBoats();
        Check.due("save(0)", x.save(0), 0);
        for (int i = 1; i <= 20; i++) {
            x.minutes(60);
            Check.due("save", x.save(i % 2), 60 * i);
        }
        Check.due("restore(0)", x.restore(0), 1200);
        Check.due("restore(1)", x.restore(1), 1140);
    }

    // "Stores the present state in a save slot.": all of it, over what was there, and not in the other one
    static void promise26_storesAllOfTheState() {
        for (int slot = 0; slot <= 1; slot++) {
            for (Fresh.Maker maker : Fresh.ALL) {
                GutterBoats x = maker.made();
                x.save(slot);
                x.minutes(60);
                x.set(0, 3);
                x.restore(slot);
                Check.same("the state", Check.told(x), Check.told(maker.made()));
            }
        }
        GutterBoats x = Fresh.rich();
        x.save(0);
        Check.due("the other slot", x.restore(1), 11);
        x.save(1);
        x.minutes(1);
        x.save(1);
        Check.due("the slot as stored last", x.restore(1), 12);
    }

    // save is no action, and changes neither the state, nor the text, nor what is remembered
    static void promise26_changesNothingButTheSlot() {
        // Saved once more the slot has the same state, so that nothing at all may be different.
        Fresh.Maker saved = () -> {
            GutterBoats x = Fresh.rich();
            x.save(0);
            return x;
        };
        Fresh.changesNothing(saved, x -> x.save(0));
        GutterBoats x = Fresh.rich();
        x.save(0);
        x.save(1);
        for (int left = 13; left >= 0; left--) {
            Check.due("undo()", x.undo(), left);
        }
        Check.throwsIt(Check.NOT_NOW, x::undo);
    }

    // what is done behind it does not reach what is stored
    static void promise26_whatIsDoneLaterIsNotStored() {
        GutterBoats x = Fresh.rich();
        String before = Check.told(Fresh.rich());
        x.save(0);
        x.gutter(9, 1, 1, 1);
        x.boat(3, 3, 3);
        x.launch(5, 0);
        x.hook(0, 0, 0);
        x.claim(1, 3);
        x.minutes(60);
        x.set(2, 9);
        x.restore(0);
        Check.same("the state", Check.told(x), before);
    }

    // "slot: 0 or 1"; "Throws `IndexOutOfBoundsException` if there is no such save slot" (named first, too: no such slot
    // has ever been saved in)
    static void promise27_slotsZeroAndOne() {
        for (int slot : NO_SLOTS) {
            Fresh.refusedByAll(Check.NO_SUCH, x -> x.restore(slot));
        }
    }

    // "Throws `IllegalStateException` if nothing has been saved in it since the last load": never, not since, and since
    static void promise27_nothingSavedSinceTheLastLoad() {
        Fresh.refused(GutterBoats::new, Check.NOT_NOW, x -> x.restore(0));
        Fresh.refused(GutterBoats::new, Check.NOT_NOW, x -> x.restore(1));
        for (int slot = 0; slot <= 1; slot++) {
            int here = slot;
            Fresh.Maker loaded = () -> {
                GutterBoats x = Fresh.rich();
                x.load();
                x.save(1 - here);
                x.minutes(1);
                return x;
            };
            Fresh.refused(loaded, Check.NOT_NOW, x -> x.restore(here));
            GutterBoats x = loaded.made();
            Check.due("restore", x.restore(1 - here), 0);
            x.minutes(2);
            x.save(here);
            Check.due("restore", x.restore(here), 2);
            Check.due("restore", x.restore(1 - here), 0);
        }
    }

    // the same: a load that throws is none
    static void promise27_aRefusedLoadEmptiesNoSlot() {
        GutterBoats x = Fresh.rich();
        x.append('x');
        Check.throwsIt(Check.NOT_NOW, x::load);
        Check.due("restore(0)", x.restore(0), 4);
        Check.due("restore(1)", x.restore(1), 11);
    }

    // "Replaces the state by the one in a save slot": all of it, with more and with less than there was
    static void promise27_replacesAllOfTheState() {
        GutterBoats x = new GutterBoats();
        x.save(0);
        x.gutter(10, 1, 0, 0);
        x.boat(1, 1, 1);
        x.launch(0, 0);
        x.hook(3, 0, 9);
        x.set(1, 9);
        x.minutes(2);
        x.save(1);
        String more = Check.told(x);
        Check.due("restore(0)", x.restore(0), 0);
        Check.same("the state", Check.told(x), Check.told(new GutterBoats()));
        Check.due("restore(1)", x.restore(1), 2);
        Check.same("the state", Check.told(x), more);
    }

    // "and forgets all remembered states": one, and as many as there can be; and none of those is there behind new actions
    static void promise27_forgetsAllRememberedStates() {
        for (int actions : new int[] {0, 1, 13, 14, 15}) {
            GutterBoats x = new GutterBoats();
            x.save(0);
            for (int i = 0; i < actions; i++) {
                x.minutes(1);
            }
            x.restore(0);
            Check.throwsIt(Check.NOT_NOW, x::undo);
            x.minutes(1);
            x.minutes(1);
            Check.due("undo()", x.undo(), 1);
            Check.due("undo()", x.undo(), 0);
            Check.due("about(7)", x.about(7), 0);
            Check.throwsIt(Check.NOT_NOW, x::undo);
        }
    }

    // "The save slot keeps it.": also when the restored state is changed, and both slots
    static void promise27_theSlotKeepsIt() {
        GutterBoats x = Fresh.rich();
        for (int i = 0; i < 3; i++) {
            Check.due("restore(1)", x.restore(1), 11);
            x.minutes(7);
            x.set(0, i);
            Check.due("restore(0)", x.restore(0), 4);
            x.minutes(9);
            x.undo();
        }
        x.restore(0);
        GutterBoats y = Fresh.rich();
        y.restore(0);
        Check.same("the state", Check.told(x), Check.told(y));
    }

    // "Returns the minutes then." (those of the slot, not those before)
    static void promise27_answersTheMinutesThen() {
        GutterBoats x = new GutterBoats();
        x.minutes(10);
        x.save(1);
        x.minutes(20);
        Check.due("restore(1)", x.restore(1), 10);
        Check.due("about(7)", x.about(7), 10);
    }

    // "everything but the text and the save slots": the text is not replaced
    static void promise27_theTextIsNotReplaced() {
        GutterBoats x = Check.withText("Tm0");
        x.save(0);
        x.append('7');
        x.restore(0);
        Check.due("errorPosition()", x.errorPosition(), GutterBoats.NONE);
        Check.due("clearText()", x.clearText(), 4);
        x.restore(0);
        Check.due("clearText()", x.clearText(), 0);
    }

    // the winner, the ends and the claims are those of the restored state
    static void promise27_questionsAskTheRestoredState() {
        GutterBoats x = Check.loaded("Tg041000b330b330l10");
        x.save(0);
        x.launch(0, 0);
        Check.due("winner()", x.winner(), 0);
        x.minutes(1);
        x.restore(0);
        Check.due("winner()", x.winner(), 1);
        Check.due("endsIn(1, 0)", x.endsIn(1, 0), 4);
        Check.throwsIt(Check.NOT_NOW, () -> x.endsIn(0, 0));
        Check.due("launch(0, 0)", x.launch(0, 0), 4);
        Check.due("heats", x.about(8), 1);
    }
}
