/**
 * The promises 12 to 19 and the sentences about actions, undo and exceptions, one test for each, at its boundary, below
 * and above it. A comment ahead of a test is the sentence that it holds to. The ranges of lengths, currents, folds, wax
 * and settings are in the tests of the section Terms.
 */
final class ActionEdgesTest {
    private static final int NONE = GutterBoats.NONE;

    private ActionEdgesTest() {
    }

    private static int[] outside(int beyond) {
        return new int[] {-1, -2, Integer.MIN_VALUE, beyond, beyond + 1, Integer.MAX_VALUE};
    }

    // ---- gutter

    // "Returns its number." (and there is one more, with what it was made of)
    static void promise12_answersItsNumber() {
        GutterBoats x = new GutterBoats();
        for (int g = 0; g < 6; g++) {
            Check.due("gutter", x.gutter(4 + g, 5 - g, g - 1, 0), g);
            Check.due("length", x.gutterOf(g, 0), 4 + g);
            Check.due("current", x.gutterOf(g, 1), 5 - g);
        }
    }

    // "into .. (not looked at for the gutter 0)"; "cell .. (not looked at for the gutter 0)"
    static void promise12_intoAndCellAreNotLookedAtForTheGutterZero() {
        for (int any : new int[] {-1, 0, 1, 5, 6, 39, 40, Integer.MIN_VALUE, Integer.MAX_VALUE}) {
            GutterBoats x = new GutterBoats();
            Check.due("gutter", x.gutter(10, 1, any, any), 0);
            Check.due("gutterOf(0, 2)", x.gutterOf(0, 2), NONE);
            Check.due("gutterOf(0, 3)", x.gutterOf(0, 3), NONE);
            Check.due("way(0, 0, 0)", x.way(0, 0, 0), 10);
            Check.due("way(0, 0, 1)", x.way(0, 0, 1), 10);
            Fresh.refused(GutterBoats::new, Check.RANGE, y -> y.gutter(3, 1, any, any));
        }
    }

    // "Throws `IndexOutOfBoundsException` if there is no such gutter or cell into which it would flow"
    static void promise12_intoAndCellOfTheOthers() {
        for (int into : outside(3)) {
            Fresh.refused(Fresh::rich, Check.NO_SUCH, x -> x.gutter(10, 1, into, 0));
        }
        for (int cell : outside(12)) {
            Fresh.refused(Fresh::rich, Check.NO_SUCH, x -> x.gutter(10, 1, 1, cell));
        }
        Check.due("gutter", Fresh.rich().gutter(10, 1, 2, 5), 3);
        Check.due("gutter", Fresh.rich().gutter(10, 1, 0, 0), 3);
    }

    // "If several exceptions apply to a call, the one that its description names first is thrown.": each two, and all
    static void promise12_theFirstNamedException() {
        Fresh.refused(Fresh::rich, Check.NO_SUCH, x -> x.gutter(3, 1, 3, 0));
        Fresh.refused(Fresh::rich, Check.NO_SUCH, x -> x.gutter(4, 6, 0, 4));
        Fresh.refused(Fresh::full, Check.NO_SUCH, x -> x.gutter(4, 1, 6, 0));
        Fresh.refused(Fresh::full, Check.NO_SUCH, x -> x.gutter(4, 1, 5, 40));
        Fresh.refused(Fresh::full, Check.RANGE, x -> x.gutter(41, 1, 5, 39));
        Fresh.refused(Fresh::full, Check.RANGE, x -> x.gutter(4, -1, 5, 39));
        Fresh.refused(Fresh::full, Check.NO_SUCH, x -> x.gutter(41, -1, 6, 40));
    }

    // "Adds a gutter": the others, and the boats in them, stay as they were
    static void promise12_nothingElseIsChanged() {
        GutterBoats x = Fresh.rich();
        String before = Check.told(x);
        x.gutter(10, 1, 0, 3);
        Check.due("undo()", x.undo(), 13);
        Check.same("the state", Check.told(x), before);
        x.gutter(10, 1, 0, 3);
        for (int b = 0; b < 6; b++) {
            for (int what = 0; what <= 10; what++) {
                Check.due("boatOf", x.boatOf(b, what), Fresh.rich().boatOf(b, what));
            }
        }
    }

    // ---- boat

    // "Returns its number."
    static void promise13_answersItsNumber() {
        GutterBoats x = new GutterBoats();
        for (int b = 0; b < 10; b++) {
            Check.due("boat", x.boat(b % 9 + 1, b % 4, 3 - b % 4), b);
            int[] due = {b % 9 + 1, b % 4, 3 - b % 4, 0, NONE, NONE, 0, NONE, 0, 0};
            for (int what = 0; what <= 9; what++) {
                Check.due("boatOf(" + b + ", " + what + ")", x.boatOf(b, what), due[what]);
            }
        }
    }

    // "If several exceptions apply to a call, the one that its description names first is thrown.": each two, and all
    static void promise13_theFirstNamedException() {
        Fresh.refused(Fresh::rich, Check.NO_SUCH, x -> x.boat(0, 0, 4));
        Fresh.refused(Fresh::rich, Check.NO_SUCH, x -> x.boat(1, 4, -1));
        Fresh.refused(Fresh::full, Check.NO_SUCH, x -> x.boat(1, 0, 4));
        Fresh.refused(Fresh::full, Check.RANGE, x -> x.boat(10, 0, 3));
        Fresh.refused(Fresh::full, Check.RANGE, x -> x.boat(1, -1, 0));
        Fresh.refused(Fresh::full, Check.NO_SUCH, x -> x.boat(0, 4, -1));
    }

    // a boat in the place of one that was undone has nothing of it
    static void promise13_aBoatBehindAnUndoIsNew() {
        GutterBoats x = Check.loaded("Tg041000");
        x.boat(3, 3, 2);
        x.launch(0, 0);
        x.minutes(4);
        x.undo();
        x.undo();
        x.undo();
        x.boat(1, 0, 0);
        int[] due = {1, 0, 0, 0, NONE, NONE, 0, NONE, 0, 0, 3};
        for (int what = 0; what <= 10; what++) {
            Check.due("boatOf(0, " + what + ")", x.boatOf(0, what), due[what]);
        }
    }

    // ---- launch

    // "Returns the way that it has to go."
    static void promise14_answersTheWay() {
        for (int g = 0; g < 6; g++) {
            GutterBoats x = new GutterBoats();
            for (int number = 0; number < 6; number++) {
                x.gutter(4 + number, 0, number - 1, 2 + number);
            }
            x.boat(1, 0, 0);
            // Each gutter flows into the last cell of the one before.
            Check.due("launch(0, " + g + ")", x.launch(0, g), 4 + 2 * g);
            Check.due("its gutter", x.boatOf(0, 4), g);
            Check.due("its cell", x.boatOf(0, 5), 0);
        }
    }

    // "Throws `IndexOutOfBoundsException` if there is no such boat or gutter"
    static void promise14_boatsAndGutters() {
        for (Fresh.Maker maker : Fresh.ALL) {
            for (int b : outside(maker.made().about(1))) {
                Fresh.refused(maker, Check.NO_SUCH, x -> x.launch(b, 0));
            }
            for (int g : outside(maker.made().about(0))) {
                Fresh.refused(maker, Check.NO_SUCH, x -> x.launch(0, g));
            }
        }
        Fresh.refused(Fresh::rich, Check.NO_SUCH, x -> x.launch(5, 3));
        Fresh.refused(Fresh::rich, Check.NO_SUCH, x -> x.launch(5, -1));
        Check.due("launch(5, 2)", Fresh.rich().launch(5, 2), 6 + 7 + 2);
    }

    // "If several exceptions apply to a call, the one that its description names first is thrown."
    static void promise14_theFirstNamedException() {
        for (int b = 0; b < 5; b++) {
            int boat = b;
            Fresh.refused(Fresh::rich, Check.NO_SUCH, x -> x.launch(boat, 3));
            Fresh.refused(Fresh::rich, Check.NO_SUCH, x -> x.launch(boat, -1));
            Fresh.refused(Fresh::rich, Check.NOT_NOW, x -> x.launch(boat, 2));
        }
    }

    // ---- hook

    // "Throws `IndexOutOfBoundsException` if there is no such owner, gutter or cell"
    static void promise15_ownersGuttersAndCells() {
        for (int o : outside(4)) {
            Fresh.refusedByAll(Check.NO_SUCH, x -> x.hook(o, 0, 0));
        }
        for (Fresh.Maker maker : Fresh.ALL) {
            int gutters = maker.made().about(0);
            for (int g : outside(gutters)) {
                Fresh.refused(maker, Check.NO_SUCH, x -> x.hook(0, g, 0));
            }
            for (int g = 0; g < gutters; g++) {
                int gutter = g;
                int length = maker.made().gutterOf(g, 0);
                for (int c : outside(length)) {
                    Fresh.refused(maker, Check.NO_SUCH, x -> x.hook(3, gutter, c));
                }
                GutterBoats x = maker.made();
                x.hook(3, g, 0);
                Check.due("hook's cell", x.ownerOf(3, 3), 0);
                x.hook(3, g, length - 1);
                Check.due("hook's cell", x.ownerOf(3, 3), length - 1);
                Check.due("hook's gutter", x.ownerOf(3, 2), g);
            }
        }
    }

    // "Returns how many wrecks could be claimed by it then.": none, and all ten; then, not before
    static void promise15_answersHowManyCouldBeClaimedThen() {
        GutterBoats x = new GutterBoats();
        x.gutter(10, 0, 0, 0);
        x.gutter(10, 0, 0, 0);
        for (int b = 0; b < 10; b++) {
            x.boat(1, 0, 0);
            x.launch(b, 0);
        }
        Check.due("none is sunk yet", x.hook(0, 0, 0), 0);
        x.minutes(4);
        Check.due("in reach", x.hook(0, 0, 2), 10);
        Check.due("too far", x.hook(0, 0, 3), 0);
        Check.due("another gutter", x.hook(0, 1, 0), 0);
        Check.due("in reach", x.hook(0, 0, 1), 10);
        Check.due("another one is nearer", x.hook(1, 0, 2), 0);
        Check.due("as near", x.hook(1, 0, 1), 10);
        Check.due("nearer", x.hook(1, 0, 0), 10);
        Check.due("the same again", x.hook(1, 0, 0), 10);
    }

    // ---- claim

    // "Throws `IndexOutOfBoundsException` if there is no such owner or boat"
    static void promise16_ownersAndBoats() {
        for (int o : outside(4)) {
            Fresh.refusedByAll(Check.NO_SUCH, x -> x.claim(o, 0));
        }
        for (Fresh.Maker maker : Fresh.ALL) {
            for (int b : outside(maker.made().about(1))) {
                Fresh.refused(maker, Check.NO_SUCH, x -> x.claim(0, b));
            }
        }
        for (int o = 0; o <= 3; o++) {
            Check.due("claim of the last boat", Fresh.full().claim(o, 9), 1);
        }
    }

    // "Returns 0 if it is claimed, otherwise the reason why not.": the same as why() a moment before
    static void promise16_answersAsWhyBefore() {
        for (int o = 0; o <= 3; o++) {
            for (int b = 0; b < 6; b++) {
                GutterBoats x = Fresh.rich();
                int why = x.why(o, b);
                int refused = x.about(11);
                Check.due("claim(" + o + ", " + b + ")", x.claim(o, b), why);
                Check.due("state", x.boatOf(b, 3), why == 0 ? 4 : Fresh.rich().boatOf(b, 3));
                Check.due("refused", x.about(11), why == 0 ? refused : refused + 1);
            }
        }
    }

    // a refused claim changes nothing but the count of the refused ones, and the remembered states
    static void promise16_aRefusedClaimIsCountedOnly() {
        GutterBoats x = Fresh.rich();
        String before = Check.told(x);
        Check.due("claim(0, 3)", x.claim(0, 3), 2);
        Check.due("undo()", x.undo(), 13);
        Check.same("the state", Check.told(x), before);
        x.claim(0, 3);
        Check.due("refused", x.about(11), Fresh.rich().about(11) + 1);
        for (int what = 0; what <= 10; what++) {
            Check.due("boatOf(3, what)", x.boatOf(3, what), Fresh.rich().boatOf(3, what));
        }
        Check.due("points", x.about(12), Fresh.rich().about(12));
    }

    // ---- minutes

    // "n: 1 to 60"; "Throws `IllegalArgumentException` if n is out of range"
    static void promise17_oneToSixty() {
        for (int n : new int[] {1, 2, 59, 60}) {
            GutterBoats x = new GutterBoats();
            Check.due("minutes", x.minutes(n), 0);
            Check.due("about(7)", x.about(7), n);
        }
        for (int n : new int[] {0, 61, -1, -60, Integer.MIN_VALUE, Integer.MAX_VALUE}) {
            Fresh.refusedByAll(Check.RANGE, x -> x.minutes(n));
        }
    }

    // "Returns how many boats arrive in them.": none, those of each minute, and those of all
    static void promise17_answersTheArrivals() {
        String text = "Tg041000g041000b330b330b330b330l00l10l20l31m03";
        GutterBoats x = Check.loaded(text);
        Check.due("minutes(1)", x.minutes(1), 3);
        Check.due("minutes(3)", x.minutes(3), 0);
        Check.due("minutes(1)", x.minutes(1), 1);
        Check.due("minutes(60)", x.minutes(60), 0);
        Check.due("minutes(5)", Check.loaded(text).minutes(5), 4);
        Check.due("minutes(60)", Check.loaded(text).minutes(60), 4);
    }

    // a call of n minutes is as n calls of one
    static void promise17_asSoManySingleMinutes() {
        for (int n = 1; n <= 60; n++) {
            GutterBoats x = Fresh.rich();
            GutterBoats y = Fresh.rich();
            int arrivals = 0;
            for (int i = 0; i < n; i++) {
                arrivals += y.minutes(1);
            }
            Check.due("minutes(" + n + ")", x.minutes(n), arrivals);
            Check.same("the state", Check.told(x), Check.told(y));
        }
    }

    // ---- set

    // "Throws `IllegalArgumentException` if what or v is out of range"
    static void promise18_settingsZeroToTwo() {
        for (int what : outside(3)) {
            Fresh.refusedByAll(Check.RANGE, x -> x.set(what, 1));
            Fresh.refusedByAll(Check.RANGE, x -> x.set(what, -1));
        }
    }

    // "Returns the previous one." (also if it is the same)
    static void promise18_answersThePreviousOne() {
        GutterBoats x = new GutterBoats();
        int[] first = {0, 3, 2};
        for (int what = 0; what <= 2; what++) {
            Check.due("set as it is", x.set(what, first[what]), first[what]);
            Check.due("set", x.set(what, 1), first[what]);
            Check.due("set as it is", x.set(what, 1), 1);
            Check.due("set", x.set(what, 3), 1);
        }
    }

    // ---- undo, actions, exceptions

    // "Throws `IllegalStateException` if none is remembered"
    static void promise19_noneIsRemembered() {
        Fresh.refused(GutterBoats::new, Check.NOT_NOW, GutterBoats::undo);
        Fresh.refused(Fresh.of("Tg100000b100l00m01h0000s01"), Check.NOT_NOW, GutterBoats::undo);
        Fresh.Maker restored = () -> {
            GutterBoats x = Fresh.rich();
            x.restore(0);
            return x;
        };
        Fresh.refused(restored, Check.NOT_NOW, GutterBoats::undo);
        Fresh.Maker undone = () -> {
            GutterBoats x = Fresh.rich();
            for (int i = 0; i < 14; i++) {
                x.undo();
            }
            return x;
        };
        Fresh.refused(undone, Check.NOT_NOW, GutterBoats::undo);
    }

    /** Sixteen actions, of all kinds, that all can be done one behind the other. */
    private static final Fresh.Use[] ACTIONS = {
        x -> x.gutter(10, 2, 0, 0), x -> x.boat(2, 0, 1), x -> x.launch(0, 0), x -> x.minutes(2), x -> x.set(0, 3),
        x -> x.hook(3, 0, 9), x -> x.minutes(2), x -> x.gutter(7, 0, 0, 9), x -> x.set(0, 0), x -> x.launch(0, 1),
        x -> x.minutes(7), x -> x.claim(2, 0), x -> x.hook(2, 1, 0), x -> x.claim(2, 0), x -> x.boat(9, 3, 2), x -> x.set(2, 9),
    };

    private static GutterBoats behindActions(int actions) {
        GutterBoats x = new GutterBoats();
        for (int i = 0; i < actions; i++) {
            ACTIONS[i].on(x);
        }
        return x;
    }

    private static GutterBoats behindActionsAndUndos(int actions, int undos) {
        GutterBoats x = behindActions(actions);
        for (int i = 1; i <= undos; i++) {
            Check.due("undo()", x.undo(), Math.min(14, actions) - i);
        }
        return x;
    }

    // the actions are what they seem: a heat is won in them, a boat sinks, a claim is refused, and one is not
    static void promise19_theActionsOfTheseTests() {
        GutterBoats x = behindActions(ACTIONS.length);
        int[] due = {2, 2, 1, 0, 0, 0, 1, 11, 2, 0, 1, 1, 5, 10};
        for (int what = 0; what <= 13; what++) {
            Check.due("about(" + what + ")", x.about(what), due[what]);
        }
    }

    // "Before each action, the state is remembered.": each kind of action, and all of the state
    static void promise19_eachActionIsTakenBack() {
        for (int actions = 1; actions <= ACTIONS.length; actions++) {
            GutterBoats x = behindActionsAndUndos(actions, 1);
            Check.same("the state", Check.told(x), Check.told(behindActions(actions - 1)));
        }
    }

    // "At most 14 states are remembered; when one more is remembered, the oldest one is forgotten.": 13, 14, 15 and 16
    static void promise19_atMostFourteenStates() {
        for (int actions = 13; actions <= 16; actions++) {
            int remembered = Math.min(14, actions);
            for (int undos = 1; undos <= remembered; undos++) {
                GutterBoats x = behindActionsAndUndos(actions, undos);
                Check.same("the state", Check.told(x), Check.told(behindActions(actions - undos)));
            }
            GutterBoats x = behindActionsAndUndos(actions, remembered);
            Check.throwsIt(Check.NOT_NOW, x::undo);
            Check.same("the state", Check.told(x), Check.told(behindActions(actions - remembered)));
        }
    }

    // the same, long after: 15 to 45 actions, with undos between them
    static void promise19_atMostFourteenStatesLongAfter() {
        for (int actions = 15; actions <= 45; actions++) {
            GutterBoats x = new GutterBoats();
            for (int i = 0; i < actions; i++) {
                x.minutes(1);
            }
            Check.due("undo()", x.undo(), 13);
            Check.due("undo()", x.undo(), 12);
            x.minutes(3);
            Check.due("undo()", x.undo(), 12);
            for (int left = 11; left >= 0; left--) {
                Check.due("undo()", x.undo(), left);
                Check.due("about(7)", x.about(7), actions - 14 + left);
            }
            Check.throwsIt(Check.NOT_NOW, x::undo);
        }
    }

    // "Each call of one of them that does not throw an exception is an action, also if nothing becomes different"
    static void promise19_anActionAlsoIfNothingBecomesDifferent() {
        Fresh.Use[] idle = {x -> x.set(0, 1), x -> x.set(1, 3), x -> x.set(2, 3), x -> x.hook(1, 1, 2)};
        for (Fresh.Use action : idle) {
            GutterBoats x = Fresh.rich();
            for (int i = 0; i < 14; i++) {
                x.undo();
            }
            GutterBoats y = Fresh.rich();
            String before = Check.told(Fresh.rich());
            action.on(y);
            Check.same("the state", Check.told(y), before);
            // As the oldest one is forgotten, the last undo leads less far back.
            Check.due("undo()", y.undo(), 13);
            Check.same("the state", Check.told(y), before);
            for (int i = 0; i < 13; i++) {
                y.undo();
            }
            Check.throwsIt(Check.NOT_NOW, y::undo);
            if (Check.told(x).equals(Check.told(y))) {
                throw new Check.Wrong("the idle action has been remembered nowhere");
            }
        }
        Check.due("a refused claim is undone", refusedClaims(), 0);
    }

    private static int refusedClaims() {
        GutterBoats x = Check.loaded("Tb100");
        x.claim(0, 0);
        Check.due("refused", x.about(11), 1);
        Check.due("undo()", x.undo(), 0);
        return x.about(11);
    }

    // "(undo is none)": no undo is undone, and each leads one state farther back
    static void promise19_undoIsNoAction() {
        GutterBoats x = new GutterBoats();
        x.minutes(1);
        x.minutes(2);
        x.minutes(4);
        Check.due("undo()", x.undo(), 2);
        Check.due("about(7)", x.about(7), 3);
        Check.due("undo()", x.undo(), 1);
        Check.due("about(7)", x.about(7), 1);
        x.minutes(8);
        Check.due("undo()", x.undo(), 1);
        Check.due("about(7)", x.about(7), 1);
        Check.due("undo()", x.undo(), 0);
        Check.due("about(7)", x.about(7), 0);
        Check.throwsIt(Check.NOT_NOW, x::undo);
    }

    // "the state, which consists of everything but the text and the save slots"
    static void promise19_textAndSlotsAreNotTakenBack() {
        GutterBoats x = new GutterBoats();
        x.minutes(5);
        x.save(0);
        Check.write(x, "Tm01");
        x.minutes(5);
        x.save(1);
        x.undo();
        x.undo();
        Check.due("about(7)", x.about(7), 0);
        Check.due("errorPosition()", x.errorPosition(), NONE);
        Check.due("clearText()", x.clearText(), 4);
        Check.due("restore(1)", x.restore(1), 10);
        Check.due("restore(0)", x.restore(0), 5);
    }

    // "load and restore are not actions."
    static void promise19_loadAndRestoreAreNoActions() {
        GutterBoats x = Check.withText("Tm01");
        x.save(0);
        x.minutes(2);
        x.load();
        Check.throwsIt(Check.NOT_NOW, x::undo);
        x.save(0);
        x.minutes(2);
        x.restore(0);
        Check.throwsIt(Check.NOT_NOW, x::undo);
        Check.due("about(7)", x.about(7), 1);
    }

    // "A call that throws an exception changes nothing.": it is no action either, and the undo behind it is as before
    static void promise19_callsThatThrowAreNoActions() {
        Fresh.Use[] refused = {x -> x.gutter(3, 0, 0, 0), x -> x.gutter(4, 0, 3, 0), x -> x.boat(0, 0, 0), x -> x.boat(1, 0, 4),
            x -> x.launch(0, 0), x -> x.launch(6, 0), x -> x.hook(4, 0, 0), x -> x.hook(0, 0, 4), x -> x.claim(4, 0),
            x -> x.claim(0, 6), x -> x.minutes(0), x -> x.set(3, 0), x -> x.set(0, 4)};
        for (Fresh.Use call : refused) {
            GutterBoats x = Fresh.rich();
            for (int i = 0; i < 20; i++) {
                try {
                    call.on(x);
                    throw new Check.Wrong("an exception is due");
                } catch (IndexOutOfBoundsException | IllegalArgumentException | IllegalStateException e) {
                    continue;
                }
            }
            GutterBoats y = Fresh.rich();
            for (int left = 13; left >= 0; left--) {
                Check.due("undo()", x.undo(), left);
                y.undo();
                Check.due("about(7)", x.about(7), y.about(7));
                Check.due("about(3)", x.about(3), y.about(3));
            }
            Check.same("the state", Check.told(x), Check.told(y));
        }
    }
}
