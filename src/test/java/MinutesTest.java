/** Promises 17 to 19: minutes, set and undo. */
final class MinutesTest {
    private static final int NONE = GutterBoats.NONE;

    private MinutesTest() {
    }

    private static void at(GutterBoats x, int b, int gutter, int cell, int soak) {
        Check.due("gutter of " + b, x.boatOf(b, 4), gutter);
        Check.due("cell of " + b, x.boatOf(b, 5), cell);
        Check.due("soak of " + b, x.boatOf(b, 6), soak);
    }

    static void promise17_minutesGoByWithoutBoats() {
        GutterBoats x = new GutterBoats();
        Check.due("minutes(60)", x.minutes(60), 0);
        Check.due("minutes(1)", x.minutes(1), 0);
        Check.due("about(7)", x.about(7), 61);
    }

    static void promise17_minutesRefuses() {
        GutterBoats x = new GutterBoats();
        Check.throwsIt(Check.RANGE, () -> x.minutes(0));
        Check.throwsIt(Check.RANGE, () -> x.minutes(61));
        Check.throwsIt(Check.RANGE, () -> x.minutes(-1));
        Check.throwsIt(Check.RANGE, () -> x.minutes(Integer.MAX_VALUE));
        Check.due("about(7)", x.about(7), 0);
        Check.throwsIt(Check.NOT_NOW, x::undo);
    }

    static void promise17_boatsDriftByCurrentAndRainLessFolds() {
        // Folds of 3, 4, 7, 8 and 9 with the current 3.
        GutterBoats x = Check.loaded("Tg403000b330b430b730b830b930l00l10l20l30l40m01");
        int[] cells = {3, 2, 2, 1, 1};
        for (int b = 0; b < 5; b++) {
            at(x, b, 0, cells[b], 1);
            Check.due("drifted", x.boatOf(b, 9), cells[b]);
        }
        x.set(0, 2);
        x.minutes(1);
        for (int b = 0; b < 5; b++) {
            at(x, b, 0, 2 * cells[b] + 2, 4);
        }
        Check.due("about(13)", x.about(13), 28);
    }

    static void promise17_noDriftBelowNone() {
        GutterBoats x = Check.loaded("Tg041000b930b430l00l10m03");
        at(x, 0, 0, 0, 3);
        at(x, 1, 0, 0, 3);
        Check.due("about(13)", x.about(13), 0);
        x.set(0, 1);
        x.minutes(1);
        at(x, 0, 0, 0, 5);
        at(x, 1, 0, 1, 5);
    }

    static void promise17_boatsComeIntoTheGutterBelow() {
        // The current of the gutter in which the minute begins counts for all of the minute.
        GutterBoats x = Check.loaded("Tg201000g045007b330l01m01");
        at(x, 0, 0, 8, 1);
        x.minutes(1);
        at(x, 0, 0, 9, 2);
        GutterBoats y = Check.loaded("Tg205000g041007b330l01m03");
        at(y, 0, 1, 3, 3);
        y.minutes(1);
        at(y, 0, 0, 7, 4);
        y.minutes(1);
        at(y, 0, 0, 12, 5);
        Check.due("drifted", y.boatOf(0, 9), 9);
    }

    static void promise17_throughSeveralGuttersInAMinute() {
        GutterBoats x = Check.loaded("Tg041000g045003g045103b110l02");
        x.set(0, 3);
        Check.due("minutes(1)", x.minutes(1), 1);
        Check.due("drifted", x.boatOf(0, 9), 6);
        Check.due("state", x.boatOf(0, 3), 0);
    }

    static void promise17_theLastCellIsNotTheDrain() {
        GutterBoats x = Check.loaded("Tg041000b330l00");
        Check.due("minutes(3)", x.minutes(3), 0);
        at(x, 0, 0, 3, 3);
        Check.due("minutes(1)", x.minutes(1), 1);
        at(x, 0, NONE, NONE, 3);
        Check.due("drifted", x.boatOf(0, 9), 4);
    }

    static void promise17_wrecksHoldBoatsUp() {
        // 0 sinks in the cell 4; 1 comes to the cell 3 in the same minute, and stays there.
        GutterBoats x = Check.loaded("Tg401000b100b230l00l10m04");
        Check.due("state", x.boatOf(0, 3), 3);
        at(x, 0, 0, 4, 4);
        at(x, 1, 0, 3, 4);
        Check.due("drifted", x.boatOf(1, 9), 3);
        x.set(0, 3);
        x.minutes(2);
        at(x, 1, 0, 3, 12);
        x.hook(0, 0, 4);
        x.claim(0, 0);
        x.minutes(1);
        at(x, 1, 0, 7, 16);
    }

    static void promise17_aBoatOfLowerNumberPassesBeforeTheOtherSinks() {
        GutterBoats x = Check.loaded("Tg401000b230b100l00l10m04");
        Check.due("state", x.boatOf(1, 3), 3);
        at(x, 0, 0, 4, 4);
        at(x, 1, 0, 4, 4);
        x.minutes(1);
        at(x, 0, 0, 5, 5);
    }

    static void promise17_wrecksHoldUpAcrossGuttersAndInTheMidstOfADrift() {
        // A wreck in the cell 2 of the gutter 0, where the gutter 1 comes in.
        GutterBoats x = new GutterBoats();
        x.gutter(10, 1, 0, 0);
        x.gutter(4, 5, 0, 2);
        x.set(1, 1);
        x.boat(1, 0, 0);
        x.boat(9, 3, 0);
        x.boat(9, 3, 0);
        x.launch(0, 0);
        x.minutes(2);
        at(x, 0, 0, 2, 2);
        x.launch(1, 1);
        x.minutes(2);
        at(x, 1, 1, 3, 2);
        Check.due("drifted", x.boatOf(1, 9), 3);
        x.set(0, 3);
        x.launch(2, 0);
        x.minutes(1);
        at(x, 2, 0, 1, 4);
        at(x, 1, 1, 3, 6);
        Check.due("drifted", x.boatOf(2, 9), 1);
    }

    static void promise17_aWreckInTheOwnCellHoldsNobodyUp() {
        GutterBoats x = Check.loaded("Tg100000b100b100l00m04l10m02");
        Check.due("state", x.boatOf(0, 3), 3);
        at(x, 1, 0, 0, 2);
        x.set(0, 2);
        x.minutes(1);
        Check.due("state", x.boatOf(1, 3), 3);
        at(x, 1, 0, 2, 5);
        GutterBoats y = Check.loaded("Tg100000b100b100l00m04l10m04");
        at(y, 1, 0, 0, 4);
        Check.due("wrecks", y.gutterOf(0, 5), 2);
        Check.due("lowest", y.gutterOf(0, 6), 0);
    }

    static void promise17_boatsSinkWithMoreThanTheGreatestSoak() {
        GutterBoats x = Check.loaded("Tg100000b210l00m10");
        Check.due("boatOf(0, 10)", x.boatOf(0, 10), 10);
        Check.due("state", x.boatOf(0, 3), 1);
        x.minutes(1);
        Check.due("state", x.boatOf(0, 3), 3);
        at(x, 0, 0, 0, 11);
        x.minutes(5);
        at(x, 0, 0, 0, 11);
        GutterBoats y = Check.loaded("Tg100000b210l00m05s11");
        Check.due("boatOf(0, 10)", y.boatOf(0, 10), 6);
        y.minutes(1);
        Check.due("state", y.boatOf(0, 3), 1);
        y.minutes(1);
        Check.due("state", y.boatOf(0, 3), 3);
    }

    static void promise17_whoArrivesDoesNotSoak() {
        GutterBoats x = Check.loaded("Tg041000b100l00m03");
        Check.due("minutes(1)", x.minutes(1), 1);
        at(x, 0, NONE, NONE, 3);
        Check.due("state", x.boatOf(0, 3), 0);
    }

    static void promise17_placesByMinutesAndNumbers() {
        // 3 arrives first; 0 and 2 in the same later minute; 1 is afloat.
        GutterBoats x = Check.loaded("Tg042000b430b930b431b132l00l10l20l30");
        Check.due("minutes(2)", x.minutes(2), 1);
        Check.due("place", x.boatOf(3, 7), 1);
        Check.due("place", x.boatOf(0, 7), NONE);
        Check.due("minutes(2)", x.minutes(2), 2);
        Check.due("place", x.boatOf(0, 7), 2);
        Check.due("place", x.boatOf(2, 7), 3);
        Check.due("place", x.boatOf(1, 7), NONE);
        Check.due("arrived", x.about(4), 3);
        Check.due("points", x.about(12), 0);
        Check.due("won", x.about(10), 0);
        x.set(0, 1);
        Check.due("minutes(4)", x.minutes(4), 1);
        Check.due("points", x.ownerOf(2, 0), 3);
        Check.due("points of all", x.about(12), 3);
        Check.due("wins", x.boatOf(3, 8), 1);
        Check.due("won", x.about(10), 1);
        Check.due("dry", x.about(2), 4);
        for (int b = 0; b < 4; b++) {
            Check.due("place", x.boatOf(b, 7), NONE);
        }
    }

    static void promise17_aHeatInWhichAllSinkIsWonByNobody() {
        GutterBoats x = Check.loaded("Tg100000b100b100l00l10m03");
        Check.due("under way", x.about(9), 1);
        Check.due("minutes(1)", x.minutes(1), 0);
        Check.due("under way", x.about(9), 0);
        Check.due("heats", x.about(8), 1);
        Check.due("won", x.about(10), 0);
        Check.due("points", x.about(12), 0);
    }

    static void promise17_theHeatIsOverAtTheEndOfTheMinute() {
        // 1 sinks in the minute in which 0 arrives: the heat is over, and 0 has won.
        GutterBoats x = Check.loaded("Tg041000b331b100g200000s01");
        x.launch(1, 1);
        x.minutes(1);
        x.set(0, 0);
        x.minutes(1);
        at(x, 1, 1, 1, 3);
        x.set(0, 3);
        x.launch(0, 0);
        Check.due("under way", x.about(9), 1);
        Check.due("minutes(1)", x.minutes(1), 1);
        Check.due("state", x.boatOf(1, 3), 3);
        Check.due("state", x.boatOf(0, 3), 0);
        Check.due("under way", x.about(9), 0);
        Check.due("points", x.ownerOf(1, 0), 3);
        Check.due("wins", x.boatOf(0, 8), 1);
        Check.due("heats", x.about(8), 1);
    }

    static void promise17_minutesCountsAllArrivals() {
        GutterBoats x = Check.loaded("Tg045000b100b200b300b400l00l10l20l30");
        Check.due("minutes(60)", x.minutes(60), 4);
        Check.due("about(7)", x.about(7), 60);
        Check.due("wins", x.boatOf(0, 8), 1);
        x.launch(0, 0);
        x.launch(3, 0);
        Check.due("minutes(60)", x.minutes(60), 2);
        Check.due("wins", x.boatOf(0, 8), 2);
        Check.due("won", x.about(10), 2);
        Check.due("points", x.ownerOf(0, 0), 6);
    }

    static void promise18_setAnswersThePreviousValue() {
        GutterBoats x = new GutterBoats();
        Check.due("set(0, 3)", x.set(0, 3), 0);
        Check.due("set(0, 0)", x.set(0, 0), 3);
        Check.due("set(1, 1)", x.set(1, 1), 3);
        Check.due("set(1, 9)", x.set(1, 9), 1);
        Check.due("set(2, 0)", x.set(2, 0), 2);
        Check.due("set(2, 9)", x.set(2, 9), 0);
        Check.due("setting(0)", x.setting(0), 0);
        Check.due("setting(1)", x.setting(1), 9);
        Check.due("setting(2)", x.setting(2), 9);
    }

    static void promise18_setRefuses() {
        GutterBoats x = new GutterBoats();
        int[][] wrong = {{-1, 1}, {3, 1}, {0, -1}, {0, 4}, {1, 0}, {1, 10}, {2, -1}, {2, 10},
            {Integer.MIN_VALUE, 0}, {0, Integer.MAX_VALUE}};
        for (int[] call : wrong) {
            Check.throwsIt(Check.RANGE, () -> x.set(call[0], call[1]));
        }
        Check.due("setting(0)", x.setting(0), 0);
        Check.due("setting(1)", x.setting(1), 3);
        Check.due("setting(2)", x.setting(2), 2);
        Check.throwsIt(Check.NOT_NOW, x::undo);
    }

    static void promise19_undoTakesBackEachAction() {
        GutterBoats x = new GutterBoats();
        String[] told = new String[10];
        int n = 0;
        told[n++] = Check.summary(x);
        x.gutter(4, 1, 0, 0);
        told[n++] = Check.summary(x);
        x.boat(2, 1, 3);
        told[n++] = Check.summary(x);
        x.launch(0, 0);
        told[n++] = Check.summary(x);
        x.hook(2, 0, 3);
        told[n++] = Check.summary(x);
        x.set(2, 7);
        told[n++] = Check.summary(x);
        x.claim(2, 0);
        told[n++] = Check.summary(x);
        x.minutes(9);
        told[n++] = Check.summary(x);
        x.set(2, 7);
        for (int i = n - 1; i >= 0; i--) {
            Check.due("undo()", x.undo(), i);
            Check.same("the state", Check.summary(x), told[i]);
        }
        Check.throwsIt(Check.NOT_NOW, x::undo);
        Check.same("the state", Check.summary(x), told[0]);
    }

    static void promise19_fourteenStatesAreRemembered() {
        GutterBoats x = new GutterBoats();
        for (int i = 0; i < 20; i++) {
            x.minutes(1);
        }
        for (int left = 13; left >= 0; left--) {
            Check.due("undo()", x.undo(), left);
            Check.due("about(7)", x.about(7), 6 + left);
        }
        Check.throwsIt(Check.NOT_NOW, x::undo);
        Check.due("about(7)", x.about(7), 6);
    }

    static void promise19_actionsBehindAnUndoAreRememberedToo() {
        GutterBoats x = new GutterBoats();
        for (int i = 0; i < 16; i++) {
            x.minutes(1);
        }
        Check.due("undo()", x.undo(), 13);
        Check.due("undo()", x.undo(), 12);
        for (int i = 0; i < 3; i++) {
            x.minutes(10);
        }
        int[] minutes = {34, 24, 14, 13, 12, 11, 10, 9, 8, 7, 6, 5, 4, 3};
        for (int i = 0; i < 14; i++) {
            Check.due("undo()", x.undo(), 13 - i);
            Check.due("about(7)", x.about(7), minutes[i]);
        }
        Check.throwsIt(Check.NOT_NOW, x::undo);
    }

    static void promise19_questionsAndRefusedCallsAreNoActions() {
        GutterBoats x = Check.loaded("Tg102000b100l00");
        x.errorPosition();
        x.about(0);
        x.why(0, 0);
        x.endsIn(0, 0);
        x.winner();
        x.leastFolds(0, 0);
        x.runScript(1, 20010);
        x.simulate(1, 5);
        x.save(0);
        x.append('x');
        x.clearText();
        Check.throwsIt(Check.NOT_NOW, () -> x.launch(0, 0));
        Check.throwsIt(Check.NOT_NOW, x::undo);
    }

    static void promise19_undoLeavesTextAndSlots() {
        GutterBoats x = new GutterBoats();
        x.minutes(5);
        x.append('T');
        x.save(0);
        x.minutes(5);
        x.undo();
        x.undo();
        Check.due("clearText()", x.clearText(), 1);
        Check.due("restore(0)", x.restore(0), 5);
    }
}
