/**
 * The sentences of the section Terms about gutters and boats, one test for each, at its boundary, below and above it.
 * A comment ahead of a test is the sentence that it holds to.
 */
final class GutterEdgesTest {
    private static final int NONE = GutterBoats.NONE;

    private GutterEdgesTest() {
    }

    // "There are at most 6 gutters"
    static void terms_gutters_atMostSix() {
        GutterBoats x = new GutterBoats();
        for (int g = 0; g < 6; g++) {
            Check.due("about(0)", x.about(0), g);
            Check.due("gutter", x.gutter(10, 0, g - 1, 9), g);
        }
        Check.due("about(0)", x.about(0), 6);
        Fresh.refused(Fresh::full, Check.NOT_NOW, y -> y.gutter(10, 0, 5, 9));
        Fresh.refused(Fresh::full, Check.NOT_NOW, y -> y.gutter(10, 0, 0, 0));
    }

    // "numbered from 0"
    static void terms_gutters_areNumberedFromZero() {
        GutterBoats x = new GutterBoats();
        Check.throwsIt(Check.NO_SUCH, () -> x.gutterOf(0, 0));
        Check.due("gutter", x.gutter(10, 0, 0, 0), 0);
        Check.due("gutterOf(0, 0)", x.gutterOf(0, 0), 10);
        Check.throwsIt(Check.NO_SUCH, () -> x.gutterOf(-1, 0));
        Check.throwsIt(Check.NO_SUCH, () -> x.gutterOf(1, 0));
        Check.due("gutter", x.gutter(11, 0, 0, 0), 1);
        Check.due("gutterOf(1, 0)", x.gutterOf(1, 0), 11);
    }

    // "each with a length of 4 to 40 cells"
    static void terms_gutters_lengthOfFourToForty() {
        for (int length : new int[] {4, 5, 39, 40}) {
            GutterBoats x = new GutterBoats();
            Check.due("gutter", x.gutter(length, 0, 0, 0), 0);
            Check.due("gutter", x.gutter(length, 0, 0, length - 1), 1);
            Check.due("gutterOf(0, 0)", x.gutterOf(0, 0), length);
            Check.due("gutterOf(1, 0)", x.gutterOf(1, 0), length);
        }
        for (int length : new int[] {3, 41, 0, -1, -4, Integer.MIN_VALUE, Integer.MAX_VALUE}) {
            Fresh.refusedByAll(Check.RANGE, x -> x.gutter(length, 0, 0, 0));
        }
    }

    // "cells, numbered from 0"
    static void terms_gutters_cellsAreNumberedFromZero() {
        for (int length : new int[] {4, 40}) {
            GutterBoats x = new GutterBoats();
            x.gutter(length, 0, 0, 0);
            for (int way = 0; way <= 1; way++) {
                int kind = way;
                Check.throwsIt(Check.NO_SUCH, () -> x.way(0, -1, kind));
                Check.due("way(0, 0)", x.way(0, 0, way), length);
                Check.due("way(0, 1)", x.way(0, 1, way), length - 1);
                Check.due("way(0, length - 1)", x.way(0, length - 1, way), 1);
                Check.throwsIt(Check.NO_SUCH, () -> x.way(0, length, kind));
            }
        }
    }

    // "and a current of 0 to 5"
    static void terms_gutters_currentOfZeroToFive() {
        for (int current : new int[] {0, 1, 4, 5}) {
            GutterBoats x = new GutterBoats();
            x.gutter(10, current, 0, 0);
            x.gutter(10, current, 0, 0);
            Check.due("gutterOf(0, 1)", x.gutterOf(0, 1), current);
            Check.due("gutterOf(1, 1)", x.gutterOf(1, 1), current);
        }
        for (int current : new int[] {-1, 6, Integer.MIN_VALUE, Integer.MAX_VALUE}) {
            Fresh.refusedByAll(Check.RANGE, x -> x.gutter(10, current, 0, 0));
        }
    }

    // "Behind its last cell the gutter 0 flows into the drain"
    static void terms_gutters_theFirstFlowsIntoTheDrain() {
        GutterBoats x = Check.loaded("Tg041000b330l00m03");
        Check.due("cell", x.boatOf(0, 5), 3);
        Check.due("way(0, 3, 0)", x.way(0, 3, 0), 1);
        Check.due("minutes(1)", x.minutes(1), 1);
        Check.due("gutterOf(0, 2)", x.gutterOf(0, 2), NONE);
        Check.due("gutterOf(0, 3)", x.gutterOf(0, 3), NONE);
    }

    // "each other one flows into a cell of a gutter with a lower number"
    static void terms_gutters_othersFlowIntoALowerNumber() {
        for (int g = 1; g < 6; g++) {
            int number = g;
            Fresh.Maker maker = () -> chain(number);
            for (int into = 0; into < g; into++) {
                GutterBoats x = maker.made();
                Check.due("gutter", x.gutter(9, 0, into, 3), g);
                Check.due("gutterOf(g, 2)", x.gutterOf(g, 2), into);
                Check.due("gutterOf(g, 3)", x.gutterOf(g, 3), 3);
            }
            for (int into : new int[] {-1, g, g + 1, 6, Integer.MIN_VALUE, Integer.MAX_VALUE}) {
                Fresh.refused(maker, Check.NO_SUCH, x -> x.gutter(9, 0, into, 3));
            }
        }
    }

    /** Gutters of the lengths 10, 11, .., each into the last cell of the one before. */
    private static GutterBoats chain(int gutters) {
        GutterBoats x = new GutterBoats();
        for (int g = 0; g < gutters; g++) {
            x.gutter(10 + g, 1, g - 1, 8 + g);
        }
        return x;
    }

    // the same sentence, about the cell: it is one of that gutter
    static void terms_gutters_othersFlowIntoACellThatExists() {
        for (int length : new int[] {4, 40}) {
            Fresh.Maker maker = () -> {
                GutterBoats x = new GutterBoats();
                x.gutter(22, 0, 0, 0);
                x.gutter(length, 0, 0, 21);
                return x;
            };
            for (int cell : new int[] {0, 1, length - 2, length - 1}) {
                GutterBoats x = maker.made();
                x.gutter(9, 0, 1, cell);
                Check.due("gutterOf(2, 3)", x.gutterOf(2, 3), cell);
            }
            for (int cell : new int[] {-1, length, length + 1, Integer.MIN_VALUE, Integer.MAX_VALUE}) {
                Fresh.refused(maker, Check.NO_SUCH, x -> x.gutter(9, 0, 1, cell));
            }
        }
    }

    // "it is n - c for the gutter 0, otherwise n - c and the way from the cell into which the gutter flows, together"
    static void terms_gutters_theWayIsWhatIsLeftAndTheWayFromThere() {
        GutterBoats x = new GutterBoats();
        int[] lengths = {4, 40, 12, 5, 33, 7};
        int[] into = {0, 0, 1, 1, 3, 4};
        int[] cells = {0, 3, 39, 0, 4, 16};
        for (int g = 0; g < 6; g++) {
            x.gutter(lengths[g], 0, into[g], cells[g]);
        }
        // From the cell 0 of each: 4; 40 + 1; 12 + 2; 5 + 41; 33 + 42; 7 + 17 + 42.
        int[] ways = {4, 41, 14, 46, 75, 66};
        for (int g = 0; g < 6; g++) {
            for (int c = 0; c < lengths[g]; c++) {
                Check.due("way(" + g + ", " + c + ", 0)", x.way(g, c, 0), ways[g] - c);
                Check.due("way(" + g + ", " + c + ", 1)", x.way(g, c, 1), ways[g] - c);
            }
        }
    }

    // the longest way that there can be, and the shortest
    static void terms_gutters_theLongestWayAndTheShortest() {
        GutterBoats x = new GutterBoats();
        for (int g = 0; g < 6; g++) {
            x.gutter(40, 5, g - 1, 0);
        }
        x.boat(1, 0, 0);
        Check.due("launch(0, 5)", x.launch(0, 5), 240);
        for (int way = 0; way <= 1; way++) {
            Check.due("way(5, 0)", x.way(5, 0, way), 240);
            Check.due("way(5, 39)", x.way(5, 39, way), 201);
            Check.due("way(0, 39)", x.way(0, 39, way), 1);
        }
    }

    // "There are at most 10 boats, numbered from 0"
    static void terms_boats_atMostTen() {
        GutterBoats x = new GutterBoats();
        for (int b = 0; b < 10; b++) {
            int number = b;
            Check.throwsIt(Check.NO_SUCH, () -> x.boatOf(number, 0));
            Check.due("about(1)", x.about(1), b);
            Check.due("boat", x.boat(1, 0, 0), b);
            Check.due("folds", x.boatOf(b, 0), 1);
        }
        Check.due("about(1)", x.about(1), 10);
        Check.throwsIt(Check.NO_SUCH, () -> x.boatOf(-1, 0));
        Check.throwsIt(Check.NO_SUCH, () -> x.boatOf(10, 0));
        Fresh.refused(Fresh::full, Check.NOT_NOW, y -> y.boat(1, 0, 0));
    }

    // "each with 1 to 9 folds"
    static void terms_boats_oneToNineFolds() {
        for (int folds : new int[] {1, 2, 8, 9}) {
            GutterBoats x = new GutterBoats();
            Check.due("boat", x.boat(folds, 0, 0), 0);
            Check.due("folds", x.boatOf(0, 0), folds);
        }
        for (int folds : new int[] {0, 10, -1, Integer.MIN_VALUE, Integer.MAX_VALUE}) {
            Fresh.refusedByAll(Check.RANGE, x -> x.boat(folds, 0, 0));
        }
    }

    // "0 to 3 of wax"
    static void terms_boats_zeroToThreeOfWax() {
        for (int wax = 0; wax <= 3; wax++) {
            GutterBoats x = new GutterBoats();
            Check.due("boat", x.boat(5, wax, 0), 0);
            Check.due("wax", x.boatOf(0, 1), wax);
        }
        for (int wax : new int[] {-1, 4, Integer.MIN_VALUE, Integer.MAX_VALUE}) {
            Fresh.refusedByAll(Check.RANGE, x -> x.boat(5, wax, 0));
        }
    }

    // "an owner (0 to 3)"
    static void terms_boats_ownersZeroToThree() {
        for (int owner = 0; owner <= 3; owner++) {
            GutterBoats x = new GutterBoats();
            Check.due("boat", x.boat(5, 0, owner), 0);
            Check.due("owner", x.boatOf(0, 2), owner);
            for (int o = 0; o <= 3; o++) {
                Check.due("ownerOf(o, 1)", x.ownerOf(o, 1), o == owner ? 1 : 0);
            }
        }
        for (int owner : new int[] {-1, 4, Integer.MIN_VALUE, Integer.MAX_VALUE}) {
            Fresh.refusedByAll(Check.NO_SUCH, x -> x.boat(5, 0, owner));
        }
    }

    // "and a state: 0 dry (at first), 1 afloat, 2 arrived, 3 sunk, 4 claimed"
    static void terms_boats_theStates() {
        GutterBoats x = Check.loaded("Tg045000g100000b100b100");
        Check.due("at first", x.boatOf(0, 3), 0);
        x.launch(0, 0);
        x.launch(1, 1);
        Check.due("launched", x.boatOf(0, 3), 1);
        x.minutes(1);
        Check.due("arrived", x.boatOf(0, 3), 2);
        x.minutes(2);
        Check.due("not sunk yet", x.boatOf(1, 3), 1);
        x.minutes(1);
        Check.due("sunk", x.boatOf(1, 3), 3);
        Check.due("dry, as the heat is over", x.boatOf(0, 3), 0);
        x.hook(2, 1, 0);
        x.claim(2, 1);
        Check.due("claimed", x.boatOf(1, 3), 4);
    }

    // "A boat that is afloat or sunk is in a cell of a gutter"
    static void terms_boats_onlyAfloatOrSunkAreInACell() {
        GutterBoats x = Fresh.rich();
        int[] gutters = {NONE, 1, 2, 1, NONE, NONE};
        int[] cells = {NONE, 0, 0, 0, NONE, NONE};
        for (int b = 0; b < 6; b++) {
            Check.due("gutter of " + b, x.boatOf(b, 4), gutters[b]);
            Check.due("cell of " + b, x.boatOf(b, 5), cells[b]);
        }
    }

    // "A boat has a soak; it is 0 as it is launched."
    static void terms_boats_soakIsNoneAtEachLaunch() {
        GutterBoats x = Check.loaded("Tg041000b330");
        Check.due("soak at first", x.boatOf(0, 6), 0);
        x.launch(0, 0);
        Check.due("soak as launched", x.boatOf(0, 6), 0);
        x.minutes(4);
        Check.due("soak behind the voyage", x.boatOf(0, 6), 3);
        x.launch(0, 0);
        Check.due("soak as launched again", x.boatOf(0, 6), 0);
    }

    // "To be launched, a boat has to be dry"
    static void terms_boats_onlyDryOnesAreLaunched() {
        for (int b = 0; b < 5; b++) {
            int boat = b;
            Fresh.refused(Fresh::rich, Check.NOT_NOW, x -> x.launch(boat, 0));
        }
        GutterBoats x = Fresh.rich();
        Check.due("launch(5, 0)", x.launch(5, 0), 4);
    }

    // "it is afloat then, in the cell 0 of a gutter (also if others are there)"
    static void terms_boats_launchedIntoTheCellZeroAlsoIfOthersAreThere() {
        // 0 is a wreck in the cell 0, 1 is afloat there, and all others follow.
        GutterBoats x = Check.loaded("Tg400000b100l00m04b930l10");
        Check.due("wreck's cell", x.gutterOf(0, 6), 0);
        for (int b = 2; b < 10; b++) {
            x.boat(9, 3, 0);
            Check.due("launch", x.launch(b, 0), 40);
            Check.due("state", x.boatOf(b, 3), 1);
            Check.due("gutter", x.boatOf(b, 4), 0);
            Check.due("cell", x.boatOf(b, 5), 0);
        }
        Check.due("afloat", x.gutterOf(0, 4), 9);
        Check.due("wrecks", x.gutterOf(0, 5), 1);
    }

    // "All divisions are rounded down."
    static void terms_divisionsAreRoundedDown() {
        int[] less = {0, 0, 0, 0, 1, 1, 1, 1, 2, 2};
        for (int folds = 1; folds <= 9; folds++) {
            GutterBoats x = Check.loaded("Tg405000b" + folds + "30l00m01");
            Check.due("cell with " + folds + " folds", x.boatOf(0, 5), 5 - less[folds]);
        }
    }

    // "An object is used for at most 512 calls after it has been made"
    static void terms_theLastOf512CallsIsAnsweredToo() {
        GutterBoats x = new GutterBoats();
        for (int i = 1; i <= 510; i++) {
            Check.due("minutes(60)", x.minutes(60), 0);
        }
        Check.due("undo()", x.undo(), 13);
        Check.due("about(7)", x.about(7), 509 * 60);
    }
}
