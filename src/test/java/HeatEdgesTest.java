/**
 * The sentences of the section Terms about heats, hooks and settings, one test for each, at its boundary, below and
 * above it. A comment ahead of a test is the sentence that it holds to.
 */
final class HeatEdgesTest {
    private static final int NONE = GutterBoats.NONE;

    private HeatEdgesTest() {
    }

    private static void heats(GutterBoats x, int begun, int underWay, int won) {
        Check.due("heats begun", x.about(8), begun);
        Check.due("heat under way", x.about(9), underWay);
        Check.due("heats won", x.about(10), won);
    }

    private static void state(GutterBoats x, int b, int state) {
        Check.due("state of " + b, x.boatOf(b, 3), state);
    }

    private static void place(GutterBoats x, int b, int place) {
        Check.due("place of " + b, x.boatOf(b, 7), place);
    }

    // "A heat begins when a boat is launched" (and with nothing else)
    static void terms_heats_beginWithALaunch() {
        GutterBoats x = Check.loaded("Tg400000b930b930");
        heats(x, 0, 0, 0);
        x.minutes(1);
        heats(x, 0, 0, 0);
        x.launch(1, 0);
        heats(x, 1, 1, 0);
    }

    // "and no other one is afloat"
    static void terms_heats_noneBeginsWhileOneIsAfloat() {
        GutterBoats x = Check.loaded("Tg400000b930b930b930l10");
        x.launch(0, 0);
        heats(x, 1, 1, 0);
        x.minutes(1);
        x.launch(2, 0);
        heats(x, 1, 1, 0);
    }

    // "or has arrived"
    static void terms_heats_noneBeginsWhileOneHasArrived() {
        GutterBoats x = Check.loaded("Tg045000g400000b930b100b100l01l10m01");
        state(x, 1, 2);
        x.launch(2, 0);
        heats(x, 1, 1, 0);
        x.minutes(1);
        place(x, 1, 1);
        place(x, 2, 2);
    }

    // the same: boats that are dry, sunk or claimed keep no heat from beginning
    static void terms_heats_oneBeginsBesideDrySunkAndClaimedBoats() {
        GutterBoats x = Check.loaded("Tg400000b100b100b100b930l00l10m04h0000c00");
        state(x, 0, 4);
        state(x, 1, 3);
        state(x, 2, 0);
        heats(x, 1, 0, 0);
        x.launch(3, 0);
        heats(x, 2, 1, 0);
    }

    // "(heats are numbered from 1; 0 so far at first)"
    static void terms_heats_areNumberedFromOne() {
        GutterBoats x = Check.loaded("Tg045000b100");
        Check.due("heats at first", x.about(8), 0);
        for (int heat = 1; heat <= 40; heat++) {
            x.launch(0, 0);
            heats(x, heat, 1, heat - 1);
            x.minutes(1);
            heats(x, heat, 0, heat);
        }
    }

    // "A boat that arrives has the next place in the heat, from 1"
    static void terms_heats_placesFromOne() {
        GutterBoats x = Check.loaded("Tg041000g400000b930b330b330b330l01l30m01l10m01l20m01");
        place(x, 3, NONE);
        Check.due("minutes(1)", x.minutes(1), 1);
        place(x, 3, 1);
        Check.due("minutes(1)", x.minutes(1), 1);
        place(x, 1, 2);
        place(x, 2, NONE);
        Check.due("minutes(1)", x.minutes(1), 1);
        place(x, 3, 1);
        place(x, 1, 2);
        place(x, 2, 3);
        place(x, 0, NONE);
    }

    // "of those that arrive in the same minute the ones with lower numbers come first", however near they were
    static void terms_heats_lowerNumbersFirstInTheSameMinute() {
        GutterBoats x = Check.loaded("Tg041000g400000b930b330b330b330b330l01l40m01l30m01l20m01l10s03");
        Check.due("minutes(1)", x.minutes(1), 4);
        for (int b = 1; b <= 4; b++) {
            place(x, b, b);
            state(x, b, 2);
        }
        place(x, 0, NONE);
    }

    // the same: all ten in one minute, and the boat 0 has the place 1
    static void terms_heats_allTenInTheSameMinute() {
        GutterBoats x = Check.loaded("Tg045000");
        for (int b = 0; b < 10; b++) {
            x.boat(1, 0, b % 4);
        }
        for (int b = 9; b >= 0; b--) {
            x.launch(b, 0);
        }
        Check.due("winner()", x.winner(), 0);
        Check.due("minutes(1)", x.minutes(1), 10);
        heats(x, 1, 0, 1);
        for (int b = 0; b < 10; b++) {
            Check.due("wins of " + b, x.boatOf(b, 8), b == 0 ? 1 : 0);
            state(x, b, 0);
        }
        for (int o = 0; o < 4; o++) {
            Check.due("points of " + o, x.ownerOf(o, 0), o == 0 ? 3 : 0);
        }
    }

    // "At the end of a minute, when no boat is afloat any more": one is, so the heat is not over
    static void terms_heats_oneAfloatKeepsTheHeat() {
        GutterBoats x = Check.loaded("Tg045000g400000b100b100b930l00l10l21m39");
        state(x, 0, 2);
        state(x, 1, 2);
        state(x, 2, 1);
        place(x, 0, 1);
        place(x, 1, 2);
        heats(x, 1, 1, 0);
        Check.due("points", x.about(12), 0);
        // The last one sinks with the fortieth minute, and the heat is over with it.
        x.minutes(1);
        state(x, 0, 0);
        state(x, 1, 0);
        state(x, 2, 3);
        heats(x, 1, 0, 1);
        Check.due("points", x.about(12), 3);
    }

    // "and a heat was under way": the end of a minute without one gives nothing
    static void terms_heats_minutesWithoutAHeatGiveNothing() {
        GutterBoats x = Check.loaded("Tg045000b101l00m01");
        heats(x, 1, 0, 1);
        Check.due("points", x.ownerOf(1, 0), 3);
        Check.due("minutes(60)", x.minutes(60), 0);
        heats(x, 1, 0, 1);
        Check.due("points", x.ownerOf(1, 0), 3);
        Check.due("wins", x.boatOf(0, 8), 1);
    }

    // "if any boat has arrived": all have sunk, and nobody gets points
    static void terms_heats_nobodyWinsIfAllSink() {
        GutterBoats x = Check.loaded("Tg400000b100b200l00l10m06");
        heats(x, 1, 1, 0);
        x.minutes(1);
        heats(x, 1, 0, 0);
        Check.due("points", x.about(12), 0);
        state(x, 0, 3);
        state(x, 1, 3);
    }

    // "the owner of the one with the place 1 gets 3 points, and one win is counted for this boat"
    static void terms_heats_theOwnerOfThePlaceOneGetsThreePoints() {
        for (int owner = 0; owner <= 3; owner++) {
            GutterBoats x = Check.loaded("Tg041000b33" + (owner + 1) % 4 + "b33" + owner + "b33" + (owner + 2) % 4
                    + "l10m01l00l20m03");
            heats(x, 1, 1, 0);
            x.minutes(1);
            heats(x, 1, 0, 1);
            for (int o = 0; o <= 3; o++) {
                Check.due("points of " + o, x.ownerOf(o, 0), o == owner ? 3 : 0);
            }
            for (int b = 0; b <= 2; b++) {
                Check.due("wins of " + b, x.boatOf(b, 8), b == 1 ? 1 : 0);
            }
        }
    }

    // "all that have arrived are dry then" (and those that have sunk remain wrecks)
    static void terms_heats_allThatHaveArrivedAreDryThen() {
        GutterBoats x = Check.loaded("Tg045000g400000b100b930b100l01l10l20m03");
        state(x, 1, 2);
        state(x, 2, 2);
        x.minutes(1);
        state(x, 0, 3);
        state(x, 1, 0);
        state(x, 2, 0);
        place(x, 1, NONE);
        place(x, 2, NONE);
        Check.due("launch(1, 0)", x.launch(1, 0), 4);
        heats(x, 2, 1, 1);
    }

    // "Each owner has a hook, which is nowhere at first, or at a cell of a gutter."
    static void terms_hooks_areNowhereAtFirst() {
        for (int o = 0; o <= 3; o++) {
            GutterBoats x = Check.loaded("Tg400000g040000");
            for (int other = 0; other <= 3; other++) {
                Check.due("hook's gutter", x.ownerOf(other, 2), NONE);
                Check.due("hook's cell", x.ownerOf(other, 3), NONE);
            }
            x.hook(o, 1, 3);
            for (int other = 0; other <= 3; other++) {
                Check.due("hook's gutter", x.ownerOf(other, 2), other == o ? 1 : NONE);
                Check.due("hook's cell", x.ownerOf(other, 3), other == o ? 3 : NONE);
            }
        }
    }

    /** The boat 0 is a wreck in the cell 11 of the gutter 0; the boat 1 is afloat in the gutter 1. */
    private static GutterBoats wreckInTheCell11() {
        GutterBoats x = Check.loaded("Tg401000g400000b210b930l00m11l11");
        state(x, 0, 3);
        Check.due("wreck's cell", x.boatOf(0, 5), 11);
        return x;
    }

    // "1: the boat is not sunk": dry, afloat, arrived and claimed ones are not, also if the hook is nowhere
    static void terms_hooks_refusedAsTheBoatIsNotSunk() {
        int[] reasons = {1, 1, 1, 2, 1, 1};
        for (int o = 0; o <= 3; o++) {
            GutterBoats x = Fresh.rich();
            for (int b = 0; b < 6; b++) {
                int due = o == 1 && b == 3 ? 0 : reasons[b];
                Check.due("why(" + o + ", " + b + ")", x.why(o, b), due);
                Check.due("claim(" + o + ", " + b + ")", x.claim(o, b), due);
            }
        }
    }

    // "2: the hook is nowhere"
    static void terms_hooks_refusedAsTheHookIsNowhere() {
        GutterBoats x = wreckInTheCell11();
        x.set(2, 9);
        for (int o = 0; o <= 3; o++) {
            Check.due("why", x.why(o, 0), 2);
            Check.due("claim", x.claim(o, 0), 2);
        }
        // A wreck in the cell 0 is not near to a hook that is nowhere.
        GutterBoats y = Check.loaded("Tg400000b100l00m04s29");
        Check.due("why(0, 0)", y.why(0, 0), 2);
    }

    // "or at another gutter"
    static void terms_hooks_refusedAsTheHookIsAtAnotherGutter() {
        GutterBoats x = wreckInTheCell11();
        x.set(2, 9);
        x.hook(2, 1, 11);
        Check.due("why(2, 0)", x.why(2, 0), 2);
        Check.due("claim(2, 0)", x.claim(2, 0), 2);
        x.hook(2, 0, 11);
        Check.due("why(2, 0)", x.why(2, 0), 0);
    }

    // "or farther from the wreck than setting 2 cells": as far, and one cell farther, to both sides
    static void terms_hooks_refusedAsTheHookIsTooFar() {
        for (int reach = 0; reach <= 9; reach++) {
            GutterBoats x = wreckInTheCell11();
            x.set(2, reach);
            for (int side = -1; side <= 1; side += 2) {
                Check.due("hook as far", x.hook(3, 0, 11 + side * reach), 1);
                Check.due("why(3, 0)", x.why(3, 0), 0);
                Check.due("hook a cell farther", x.hook(3, 0, 11 + side * (reach + 1)), 0);
                Check.due("why(3, 0)", x.why(3, 0), 2);
                Check.due("claim(3, 0)", x.claim(3, 0), 2);
            }
            x.hook(3, 0, 11 + reach);
            Check.due("claim(3, 0)", x.claim(3, 0), 0);
        }
    }

    // "3: the hook of another owner is at this gutter, and nearer to the wreck": one cell nearer, as near, farther
    static void terms_hooks_refusedAsAnotherOneIsNearer() {
        for (int o = 0; o <= 3; o++) {
            for (int other = 0; other <= 3; other++) {
                if (other == o) {
                    continue;
                }
                GutterBoats x = wreckInTheCell11();
                x.set(2, 5);
                x.hook(o, 0, 14);
                x.hook(other, 0, 9);
                Check.due("another one is nearer", x.why(o, 0), 3);
                Check.due("claim", x.claim(o, 0), 3);
                Check.due("the other one's", x.why(other, 0), 0);
                x.hook(other, 0, 8);
                Check.due("another one is as near", x.why(o, 0), 0);
                Check.due("the other one's", x.why(other, 0), 0);
                x.hook(other, 0, 7);
                Check.due("another one is farther", x.why(o, 0), 0);
                Check.due("the other one's", x.why(other, 0), 3);
                x.hook(other, 1, 11);
                Check.due("another one is at another gutter", x.why(o, 0), 0);
                Check.due("claim", x.claim(o, 0), 0);
            }
        }
    }

    // "for the first of these reasons that is so": 1 before 2, 1 before 3, 2 before 3
    static void terms_hooks_theFirstReasonIsTold() {
        GutterBoats x = wreckInTheCell11();
        Check.due("not sunk, and the hook nowhere", x.claim(0, 1), 1);
        x.hook(0, 1, 1);
        x.hook(1, 1, 0);
        Check.due("not sunk, and another one nearer", x.claim(0, 1), 1);
        x.hook(0, 0, 14);
        x.hook(1, 0, 11);
        Check.due("too far, and another one nearer", x.claim(0, 0), 2);
        x.set(2, 3);
        Check.due("another one nearer", x.claim(0, 0), 3);
    }

    // "Otherwise the boat is claimed, and the owner (of the hook) gets as many points as it has folds."
    static void terms_hooks_theOwnerOfTheHookGetsTheFolds() {
        for (int folds = 1; folds <= 9; folds++) {
            GutterBoats x = Check.loaded("Tg400000s11b" + folds + "32l00m22h1002");
            Check.due("claim(1, 0)", x.claim(1, 0), 0);
            state(x, 0, 4);
            Check.due("points of the hook's owner", x.ownerOf(1, 0), folds);
            Check.due("points of the boat's owner", x.ownerOf(2, 0), 0);
            Check.due("points of all", x.about(12), folds);
            Check.due("claim(1, 0) again", x.claim(1, 0), 1);
            Check.due("points of all", x.about(12), folds);
        }
    }

    // several wrecks in one cell are claimed one by one
    static void terms_hooks_wrecksInOneCellAreClaimedOneByOne() {
        GutterBoats x = Check.loaded("Tg400000b100b200b300l00l10l20m10");
        Check.due("hook(2, 0, 2)", x.hook(2, 0, 2), 3);
        Check.due("claim(2, 1)", x.claim(2, 1), 0);
        Check.due("ownerOf(2, 4)", x.ownerOf(2, 4), 2);
        Check.due("claim(2, 0)", x.claim(2, 0), 0);
        Check.due("claim(2, 2)", x.claim(2, 2), 0);
        Check.due("ownerOf(2, 4)", x.ownerOf(2, 4), 0);
        Check.due("points", x.ownerOf(2, 0), 6);
        Check.due("lowest wreck", x.gutterOf(0, 6), NONE);
    }

    // "0: the rain, 0 to 3, at first 0; 1: minutes for a fold, 1 to 9, at first 3; 2: how far hooks reach, 0 to 9, at
    // first 2"
    static void terms_settings_rangesAndFirstValues() {
        int[] first = {0, 3, 2};
        int[] least = {0, 1, 0};
        int[] greatest = {3, 9, 9};
        for (int setting = 0; setting <= 2; setting++) {
            int what = setting;
            GutterBoats x = new GutterBoats();
            int before = first[what];
            Check.due("setting at first", x.setting(what), before);
            for (int v = least[what]; v <= greatest[what]; v++) {
                Check.due("set", x.set(what, v), before);
                Check.due("setting", x.setting(what), v);
                before = v;
            }
            for (int other = 0; other <= 2; other++) {
                Check.due("setting", x.setting(other), other == what ? greatest[other] : first[other]);
            }
            for (int v : new int[] {least[what] - 1, greatest[what] + 1, Integer.MIN_VALUE, Integer.MAX_VALUE}) {
                Fresh.refusedByAll(Check.RANGE, y -> y.set(what, v));
            }
        }
    }
}
