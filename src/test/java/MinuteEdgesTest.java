/**
 * The sentences of the section Terms about a minute, one test for each, at its boundary, below and above it.
 * A comment ahead of a test is the sentence that it holds to.
 */
final class MinuteEdgesTest {
    private static final int NONE = GutterBoats.NONE;

    private MinuteEdgesTest() {
    }

    private static void at(GutterBoats x, int b, int gutter, int cell) {
        Check.due("gutter of " + b, x.boatOf(b, 4), gutter);
        Check.due("cell of " + b, x.boatOf(b, 5), cell);
    }

    private static void state(GutterBoats x, int b, int state) {
        Check.due("state of " + b, x.boatOf(b, 3), state);
    }

    /** A gutter of 40 cells with the current 1, and the boat 0 as a wreck in one of its cells 2 to 9. */
    private static String wreckIn(int cell) {
        return "Tg401000s1" + (cell - 1) + "b100l00m0" + cell;
    }

    // "The minutes (0 at first) become 1 more."
    static void terms_minute_oneMore() {
        GutterBoats x = new GutterBoats();
        Check.due("at first", x.about(7), 0);
        x.minutes(1);
        Check.due("one more", x.about(7), 1);
        x.minutes(1);
        Check.due("two more", x.about(7), 2);
        x.minutes(60);
        Check.due("sixty more", x.about(7), 62);
    }

    // "Then, boat by boat, by numbers, each one that is afloat"
    static void terms_minute_onlyBoatsThatAreAfloat() {
        GutterBoats x = Fresh.rich();
        int[] soaks = new int[6];
        int[] drifted = new int[6];
        for (int b = 0; b < 6; b++) {
            soaks[b] = x.boatOf(b, 6);
            drifted[b] = x.boatOf(b, 9);
        }
        x.minutes(1);
        for (int b = 0; b < 6; b++) {
            boolean afloat = b == 1 || b == 2;
            // The rain is 1; 2 goes with it and the current 1, 1 has too many folds.
            Check.due("soak of " + b, x.boatOf(b, 6) - soaks[b], afloat ? 2 : 0);
            Check.due("drifted by " + b, x.boatOf(b, 9) - drifted[b], b == 2 ? 2 : 0);
        }
    }

    // "by numbers": what sinks in this minute is a wreck for the higher numbers already, and for the lower ones not yet
    static void terms_minute_byNumbers() {
        GutterBoats sunkBefore = Check.loaded("Tg401000s11b100b330l00l10m02");
        state(sunkBefore, 0, 3);
        at(sunkBefore, 0, 0, 2);
        at(sunkBefore, 1, 0, 1);
        GutterBoats sunkBehind = Check.loaded("Tg401000s11b330b100l00l10m02");
        state(sunkBehind, 1, 3);
        at(sunkBehind, 1, 0, 2);
        at(sunkBehind, 0, 0, 2);
    }

    // "drifts by as many cells as the current of its gutter .. and the rain (setting 0), together, less its folds / 4,
    // tell (none, if that is below 0)"
    static void terms_minute_theDriftOfAllCurrentsRainsAndFolds() {
        int[] less = {0, 0, 0, 0, 1, 1, 1, 1, 2, 2};
        for (int current = 0; current <= 5; current++) {
            for (int rain = 0; rain <= 3; rain++) {
                for (int folds = 1; folds <= 9; folds++) {
                    GutterBoats x = Check.loaded("Tg40" + current + "000s0" + rain + "b" + folds + "30l00m01");
                    int cells = Math.max(0, current + rain - less[folds]);
                    at(x, 0, 0, cells);
                    Check.due("drifted", x.boatOf(0, 9), cells);
                    Check.due("about(13)", x.about(13), cells);
                }
            }
        }
    }

    // "(none, if that is below 0)": two below, one below, none, and one
    static void terms_minute_aDriftBelowZeroIsNone() {
        int[] cells = {0, 0, 0, 3};
        for (int current = 0; current <= 3; current++) {
            GutterBoats x = Check.loaded("Tg40" + current + "000b930l00m03");
            at(x, 0, 0, cells[current]);
            state(x, 0, 1);
            Check.due("soak", x.boatOf(0, 6), 3);
            Check.due("drifted", x.boatOf(0, 9), cells[current]);
        }
    }

    // "the current of its gutter, as the minute begins"
    static void terms_minute_theCurrentAsTheMinuteBegins() {
        // From the cell 0 of four cells with the current 5: to the cell 1 below; then by 0.
        GutterBoats slower = Check.loaded("Tg400000g045000b330l01m01");
        at(slower, 0, 0, 1);
        slower.minutes(1);
        at(slower, 0, 0, 1);
        // From the cell 3 with the current 1: to the cell 0 below; then by 5.
        GutterBoats faster = Check.loaded("Tg405000g041000b330l01m04");
        at(faster, 0, 0, 0);
        faster.minutes(1);
        at(faster, 0, 0, 5);
    }

    // "with each cell it comes to the next cell of its gutter, or from the last cell into the cell into which the gutter
    // flows": to the last cell but one, the last one, the one below, and the next one there
    static void terms_minute_fromTheLastCellIntoTheGutterBelow() {
        int[] gutters = {1, 1, 0, 0};
        int[] cells = {2, 3, 7, 8};
        for (int i = 0; i < 4; i++) {
            GutterBoats x = Check.loaded("Tg400000g04" + (i + 2) + "007b330l01m01");
            at(x, 0, gutters[i], cells[i]);
            Check.due("drifted", x.boatOf(0, 9), i + 2);
        }
    }

    // the same sentence: through as many gutters as there are, in one minute
    static void terms_minute_throughManyGuttersInOneMinute() {
        GutterBoats x = new GutterBoats();
        for (int g = 0; g < 6; g++) {
            x.gutter(4, 5, g - 1, 3);
        }
        x.set(0, 3);
        x.boat(1, 3, 0);
        x.boat(1, 3, 0);
        Check.due("launch(0, 5)", x.launch(0, 5), 9);
        Check.due("minutes(1)", x.minutes(1), 0);
        at(x, 0, 0, 3);
        Check.due("launch(1, 4)", x.launch(1, 4), 8);
        Check.due("minutes(1)", x.minutes(1), 2);
        Check.due("drifted", x.boatOf(0, 9), 9);
        Check.due("drifted", x.boatOf(1, 9), 8);
    }

    // "or, from the last cell of the gutter 0, into the drain: then it has arrived": one cell too few, enough, too many
    static void terms_minute_fromTheLastCellIntoTheDrain() {
        for (int current = 3; current <= 5; current++) {
            GutterBoats x = Check.loaded("Tg04" + current + "000g400000b330b930l00l11");
            boolean arrives = current >= 4;
            Check.due("minutes(1)", x.minutes(1), arrives ? 1 : 0);
            state(x, 0, arrives ? 2 : 1);
            at(x, 0, arrives ? NONE : 0, arrives ? NONE : 3);
            Check.due("drifted", x.boatOf(0, 9), arrives ? 4 : 3);
            Check.due("about(13)", x.about(13), arrives ? 4 : 3);
        }
    }

    // "If there is a wreck in the cell to which it would come, it is held up: it stays where it is, and drifts no
    // farther in this minute": with drifts that end before the wreck, in its cell, and beyond it
    static void terms_minute_aWreckHoldsUp() {
        for (int wreck = 2; wreck <= 5; wreck++) {
            for (int rain = 0; rain <= 3; rain++) {
                GutterBoats x = Check.loaded(wreckIn(wreck) + "b330s0" + rain + "l10m01");
                int cell = Math.min(1 + rain, wreck - 1);
                at(x, 0, 0, wreck);
                at(x, 1, 0, cell);
                Check.due("drifted", x.boatOf(1, 9), cell);
                state(x, 1, 1);
            }
        }
    }

    // the same sentence, from the cell just before the wreck: not a cell
    static void terms_minute_aWreckInTheNextCellHoldsUpAtOnce() {
        for (int rain = 0; rain <= 3; rain++) {
            GutterBoats x = Check.loaded(wreckIn(2) + "b330l10m01s0" + rain);
            at(x, 1, 0, 1);
            x.minutes(1);
            at(x, 1, 0, 1);
            Check.due("drifted", x.boatOf(1, 9), 1);
        }
    }

    // "in this minute": it soaks, although it is held up, and drifts on when the wreck is taken away
    static void terms_minute_heldUpInThisMinuteOnly() {
        GutterBoats x = Check.loaded(wreckIn(2) + "b330l10m03");
        at(x, 1, 0, 1);
        Check.due("soak", x.boatOf(1, 6), 3);
        x.hook(0, 0, 2);
        Check.due("claim(0, 0)", x.claim(0, 0), 0);
        x.minutes(1);
        at(x, 1, 0, 2);
        Check.due("soak", x.boatOf(1, 6), 4);
    }

    // "the cell to which it would come": not the own one
    static void terms_minute_aWreckInTheOwnCellHoldsNobodyUp() {
        GutterBoats x = Check.loaded("Tg400000s11b100b330l00m02l10");
        at(x, 0, 0, 0);
        x.set(0, 2);
        x.minutes(1);
        at(x, 1, 0, 2);
    }

    // the same: not the same cell of another gutter
    static void terms_minute_aWreckInAnotherGutterHoldsNobodyUp() {
        GutterBoats x = Check.loaded(wreckIn(2) + "g401000b330l11m02");
        at(x, 0, 0, 2);
        at(x, 1, 1, 2);
        x.minutes(1);
        at(x, 1, 1, 3);
    }

    // the same, where a gutter comes in: one cell before the wreck, in its cell, and one cell behind it
    static void terms_minute_aWreckWhereAGutterComesIn() {
        int[] gutters = {0, 1, 0};
        int[] cells = {1, 3, 4};
        int[] drifted = {4, 3, 5};
        for (int i = 0; i < 3; i++) {
            GutterBoats x = Check.loaded(wreckIn(2) + "g04500" + (i + 1) + "b330l11m01");
            at(x, 1, gutters[i], cells[i]);
            Check.due("drifted", x.boatOf(1, 9), drifted[i]);
        }
    }

    // "a wreck": a boat that is afloat there holds nobody up, nor does one that is claimed
    static void terms_minute_onlyWrecksHoldUp() {
        GutterBoats afloat = Check.loaded("Tg401000b430b330s02l00m01s00l10m02");
        at(afloat, 0, 0, 2);
        at(afloat, 1, 0, 2);
        afloat.minutes(1);
        at(afloat, 0, 0, 2);
        at(afloat, 1, 0, 3);
        GutterBoats claimed = Check.loaded(wreckIn(2) + "h0002c00b330l10m03");
        state(claimed, 0, 4);
        at(claimed, 1, 0, 3);
    }

    // "if it has not arrived, its soak becomes 1 and the rain more, together"
    static void terms_minute_theSoakBecomesOneAndTheRainMore() {
        for (int rain = 0; rain <= 3; rain++) {
            GutterBoats x = Check.loaded("Tg400000b930l00s0" + rain);
            for (int minute = 1; minute <= 9; minute++) {
                x.minutes(1);
                Check.due("soak", x.boatOf(0, 6), minute * (1 + rain));
            }
        }
    }

    // "if it has not arrived": with the greatest soak it still arrives, and has no more; a cell farther it sinks
    static void terms_minute_whoArrivesDoesNotSoak() {
        GutterBoats x = Check.loaded("Tg041000g400000b100b930l11l00m03");
        Check.due("soak", x.boatOf(0, 6), x.boatOf(0, 10));
        x.minutes(1);
        state(x, 0, 2);
        Check.due("soak", x.boatOf(0, 6), 3);
        GutterBoats y = Check.loaded("Tg051000g400000b100b930l11l00m03");
        y.minutes(1);
        state(y, 0, 3);
        at(y, 0, 0, 4);
        Check.due("soak", y.boatOf(0, 6), 4);
    }

    // "if the soak is more than the folds times setting 1, and 4 for each wax, together, it sinks": as much, and one more
    static void terms_minute_sinksWithMoreThanTheGreatestSoak() {
        for (int folds = 1; folds <= 9; folds++) {
            for (int wax = 0; wax <= 3; wax++) {
                for (int forAFold = 1; forAFold <= 9; forAFold++) {
                    GutterBoats x = Check.loaded("Tg040000s1" + forAFold + "b" + folds + wax + "0l00");
                    int most = folds * forAFold + wax * 4;
                    Check.due("boatOf(0, 10)", x.boatOf(0, 10), most);
                    for (int left = most; left > 0; left -= 60) {
                        x.minutes(Math.min(60, left));
                    }
                    Check.due("soak", x.boatOf(0, 6), most);
                    state(x, 0, 1);
                    x.minutes(1);
                    Check.due("soak", x.boatOf(0, 6), most + 1);
                    state(x, 0, 3);
                }
            }
        }
    }

    // the same sentence, with a rain by which the soak goes beyond the greatest one
    static void terms_minute_sinksWithARainThatGoesBeyond() {
        // Greatest soaks of 3, 4, 5, 7 and 8, with 4 more in each minute.
        String[] boats = {"b300", "b400", "b500", "b310", "b410"};
        int[] sinks = {1, 2, 2, 2, 3};
        for (int i = 0; i < boats.length; i++) {
            GutterBoats x = Check.loaded("Tg400000s11s03" + boats[i] + "l00");
            for (int minute = 1; minute <= 4; minute++) {
                x.minutes(1);
                state(x, 0, minute < sinks[i] ? 1 : 3);
            }
            Check.due("soak", x.boatOf(0, 6), 4 * sinks[i]);
        }
    }

    // the same sentence: by the settings of the minute, not by those of the launch
    static void terms_minute_sinksByTheSettingsOfTheMinute() {
        GutterBoats x = Check.loaded("Tg400000b200l00m06");
        state(x, 0, 1);
        x.set(1, 4);
        x.minutes(2);
        state(x, 0, 1);
        x.set(1, 9);
        x.minutes(1);
        state(x, 0, 1);
        x.set(1, 5);
        x.minutes(1);
        state(x, 0, 1);
        x.minutes(1);
        state(x, 0, 3);
    }

    // a lesser setting alone sinks nobody: only in a minute boats sink
    static void terms_minute_onlyInAMinuteBoatsSink() {
        GutterBoats x = Check.loaded("Tg400000b200l00m06");
        x.set(1, 1);
        Check.due("greatest soak", x.boatOf(0, 10), 2);
        state(x, 0, 1);
        x.minutes(1);
        state(x, 0, 3);
        x.set(1, 9);
        x.minutes(1);
        state(x, 0, 3);
    }

    // "it sinks, there": where it has drifted to in this minute, as far as into another gutter
    static void terms_minute_sinksWhereItHasDriftedTo() {
        GutterBoats x = Check.loaded("Tg400000g041007s11b300l01m03");
        at(x, 0, 1, 3);
        state(x, 0, 1);
        x.minutes(1);
        at(x, 0, 0, 7);
        state(x, 0, 3);
        Check.due("lowest wreck", x.gutterOf(0, 6), 7);
        x.minutes(3);
        at(x, 0, 0, 7);
    }
}
