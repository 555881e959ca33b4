/** Promises 6 to 11: what there is. */
final class NumbersTest {
    private static final int NONE = GutterBoats.NONE;

    private NumbersTest() {
    }

    private static GutterBoats ofAllStates() {
        // 0 sinks in cell 0 and is claimed, 1 sinks in the gutter 0, 2 arrives, 3 is afloat, 4 is dry.
        GutterBoats x = new GutterBoats();
        x.gutter(10, 5, 0, 0);
        x.gutter(12, 0, 0, 4);
        x.boat(1, 0, 0);
        x.boat(2, 0, 1);
        x.boat(3, 0, 1);
        x.boat(9, 3, 2);
        x.boat(4, 1, 3);
        x.launch(0, 1);
        x.minutes(4);
        x.hook(2, 1, 2);
        x.claim(3, 0);
        x.claim(2, 0);
        x.launch(1, 1);
        x.minutes(7);
        x.launch(3, 1);
        x.launch(2, 0);
        x.minutes(2);
        return x;
    }

    static void promise06_aboutTellsOfAllStates() {
        GutterBoats x = ofAllStates();
        int[] due = {2, 5, 1, 1, 1, 1, 1, 13, 3, 1, 0, 1, 1, 10};
        for (int what = 0; what < due.length; what++) {
            Check.due("about(" + what + ")", x.about(what), due[what]);
        }
        // The boat 3 sinks behind 38 minutes more; the heat is over then, and the boat 2 has won it.
        x.minutes(38);
        Check.due("about(9)", x.about(9), 0);
        int[] later = {2, 5, 2, 0, 0, 2, 1, 51, 3, 0, 1, 1, 4, 10};
        for (int what = 0; what < later.length; what++) {
            Check.due("about(" + what + ") later", x.about(what), later[what]);
        }
    }

    static void promise06_aboutRefusesOtherNumbers() {
        GutterBoats x = ofAllStates();
        Check.throwsIt(Check.RANGE, () -> x.about(-1));
        Check.throwsIt(Check.RANGE, () -> x.about(14));
        Check.throwsIt(Check.RANGE, () -> x.about(Integer.MIN_VALUE));
        Check.throwsIt(Check.RANGE, () -> x.about(Integer.MAX_VALUE));
    }

    static void promise07_gutterOfTellsOfGutters() {
        GutterBoats x = ofAllStates();
        int[] first = {10, 5, NONE, NONE, 0, 0, NONE};
        int[] second = {12, 0, 0, 4, 1, 1, 0};
        for (int what = 0; what <= 6; what++) {
            Check.due("gutterOf(0, " + what + ")", x.gutterOf(0, what), first[what]);
            Check.due("gutterOf(1, " + what + ")", x.gutterOf(1, what), second[what]);
        }
    }

    static void promise07_theLowestCellWithAWreck() {
        GutterBoats x = Check.loaded("Tg401000b100b200b300l00l10l20");
        Check.due("gutterOf(0, 4)", x.gutterOf(0, 4), 3);
        x.minutes(4);
        Check.due("gutterOf(0, 6)", x.gutterOf(0, 6), 4);
        x.set(0, 1);
        x.minutes(20);
        // The wreck in the cell 4 holds the others up in the cell 3, and they sink there.
        Check.due("gutterOf(0, 4)", x.gutterOf(0, 4), 0);
        Check.due("gutterOf(0, 5)", x.gutterOf(0, 5), 3);
        Check.due("gutterOf(0, 6)", x.gutterOf(0, 6), 3);
    }

    static void promise07_gutterOfRefuses() {
        GutterBoats x = ofAllStates();
        Check.throwsIt(Check.NO_SUCH, () -> x.gutterOf(-1, 0));
        Check.throwsIt(Check.NO_SUCH, () -> x.gutterOf(2, 0));
        Check.throwsIt(Check.NO_SUCH, () -> x.gutterOf(6, 0));
        Check.throwsIt(Check.RANGE, () -> x.gutterOf(1, -1));
        Check.throwsIt(Check.RANGE, () -> x.gutterOf(0, 7));
        Check.throwsIt(Check.NO_SUCH, () -> x.gutterOf(2, 7));
        Check.throwsIt(Check.NO_SUCH, () -> x.gutterOf(Integer.MIN_VALUE, Integer.MAX_VALUE));
    }

    static void promise08_boatOfTellsOfBoats() {
        GutterBoats x = ofAllStates();
        int[][] due = {
            {1, 0, 0, 4, NONE, NONE, 4, NONE, 0, 0, 3},
            {2, 0, 1, 3, 1, 0, 7, NONE, 0, 0, 6},
            {3, 0, 1, 2, NONE, NONE, 1, 1, 0, 10, 9},
            {9, 3, 2, 1, 1, 0, 2, NONE, 0, 0, 39},
            {4, 1, 3, 0, NONE, NONE, 0, NONE, 0, 0, 16},
        };
        for (int b = 0; b < due.length; b++) {
            for (int what = 0; what <= 10; what++) {
                Check.due("boatOf(" + b + ", " + what + ")", x.boatOf(b, what), due[b][what]);
            }
        }
        x.minutes(38);
        Check.due("state", x.boatOf(2, 3), 0);
        Check.due("soak", x.boatOf(2, 6), 1);
        Check.due("place", x.boatOf(2, 7), NONE);
        Check.due("wins", x.boatOf(2, 8), 1);
        x.set(1, 9);
        Check.due("boatOf(3, 10)", x.boatOf(3, 10), 93);
        x.launch(2, 0);
        Check.due("soak", x.boatOf(2, 6), 0);
        Check.due("cell", x.boatOf(2, 5), 0);
    }

    static void promise08_boatOfRefuses() {
        GutterBoats x = ofAllStates();
        Check.throwsIt(Check.NO_SUCH, () -> x.boatOf(-1, 0));
        Check.throwsIt(Check.NO_SUCH, () -> x.boatOf(5, 0));
        Check.throwsIt(Check.NO_SUCH, () -> x.boatOf(10, 0));
        Check.throwsIt(Check.RANGE, () -> x.boatOf(4, -1));
        Check.throwsIt(Check.RANGE, () -> x.boatOf(0, 11));
        Check.throwsIt(Check.NO_SUCH, () -> x.boatOf(5, 11));
        Check.throwsIt(Check.NO_SUCH, () -> x.boatOf(Integer.MAX_VALUE, 0));
    }

    static void promise08_theTriedBoatOfLeastFoldsIsNoBoat() {
        GutterBoats x = ofAllStates();
        x.leastFolds(0, 0);
        Check.throwsIt(Check.NO_SUCH, () -> x.boatOf(5, 0));
        Check.due("about(1)", x.about(1), 5);
    }

    static void promise09_ownerOfTellsOfOwners() {
        GutterBoats x = ofAllStates();
        int[][] due = {{0, 1, NONE, NONE, 0}, {0, 2, NONE, NONE, 0}, {1, 1, 1, 2, 1}, {0, 1, NONE, NONE, 0}};
        for (int o = 0; o < 4; o++) {
            for (int what = 0; what <= 4; what++) {
                Check.due("ownerOf(" + o + ", " + what + ")", x.ownerOf(o, what), due[o][what]);
            }
        }
        x.hook(0, 1, 1);
        Check.due("ownerOf(0, 4)", x.ownerOf(0, 4), 1);
        Check.due("ownerOf(2, 4)", x.ownerOf(2, 4), 0);
    }

    static void promise09_ownerOfRefuses() {
        GutterBoats x = new GutterBoats();
        Check.throwsIt(Check.NO_SUCH, () -> x.ownerOf(-1, 0));
        Check.throwsIt(Check.NO_SUCH, () -> x.ownerOf(4, 0));
        Check.throwsIt(Check.RANGE, () -> x.ownerOf(0, -1));
        Check.throwsIt(Check.RANGE, () -> x.ownerOf(3, 5));
        Check.throwsIt(Check.NO_SUCH, () -> x.ownerOf(4, 5));
    }

    static void promise10_bothWaysAgree() {
        GutterBoats x = new GutterBoats();
        x.gutter(10, 1, 0, 0);
        x.gutter(4, 1, 0, 9);
        x.gutter(40, 1, 1, 0);
        x.gutter(7, 1, 2, 39);
        x.gutter(5, 1, 0, 0);
        x.gutter(6, 1, 4, 2);
        for (int way = 0; way <= 1; way++) {
            Check.due("way(0, 0)", x.way(0, 0, way), 10);
            Check.due("way(0, 9)", x.way(0, 9, way), 1);
            Check.due("way(1, 0)", x.way(1, 0, way), 5);
            Check.due("way(1, 3)", x.way(1, 3, way), 2);
            Check.due("way(2, 0)", x.way(2, 0, way), 45);
            Check.due("way(2, 39)", x.way(2, 39, way), 6);
            Check.due("way(3, 0)", x.way(3, 0, way), 13);
            Check.due("way(4, 4)", x.way(4, 4, way), 11);
            Check.due("way(5, 1)", x.way(5, 1, way), 18);
        }
    }

    static void promise10_theLongestWay() {
        GutterBoats x = new GutterBoats();
        for (int g = 0; g < 6; g++) {
            x.gutter(40, 0, g - 1, 0);
        }
        Check.due("way(5, 0, 0)", x.way(5, 0, 0), 240);
        Check.due("way(5, 0, 1)", x.way(5, 0, 1), 240);
    }

    static void promise10_wayRefuses() {
        GutterBoats x = Check.loaded("Tg102000g061004");
        Check.throwsIt(Check.NO_SUCH, () -> x.way(-1, 0, 0));
        Check.throwsIt(Check.NO_SUCH, () -> x.way(2, 0, 0));
        Check.throwsIt(Check.NO_SUCH, () -> x.way(0, -1, 0));
        Check.throwsIt(Check.NO_SUCH, () -> x.way(0, 10, 0));
        Check.throwsIt(Check.NO_SUCH, () -> x.way(1, 6, 1));
        Check.throwsIt(Check.RANGE, () -> x.way(0, 9, -1));
        Check.throwsIt(Check.RANGE, () -> x.way(1, 5, 2));
        Check.throwsIt(Check.NO_SUCH, () -> x.way(0, 10, 2));
        Check.throwsIt(Check.NO_SUCH, () -> x.way(2, 0, -1));
    }

    static void promise11_settingTellsSettings() {
        GutterBoats x = new GutterBoats();
        x.set(0, 1);
        x.set(1, 8);
        x.set(2, 0);
        Check.due("setting(0)", x.setting(0), 1);
        Check.due("setting(1)", x.setting(1), 8);
        Check.due("setting(2)", x.setting(2), 0);
    }

    static void promise11_settingRefuses() {
        GutterBoats x = new GutterBoats();
        Check.throwsIt(Check.RANGE, () -> x.setting(-1));
        Check.throwsIt(Check.RANGE, () -> x.setting(3));
        Check.throwsIt(Check.RANGE, () -> x.setting(Integer.MIN_VALUE));
    }
}
