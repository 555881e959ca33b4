/** Promises 12 to 19: the actions, and undo. */
final class ActionsTest {
    private static final int NONE = GutterBoats.NONE;

    private ActionsTest() {
    }

    /** A call that throws changes nothing, and is no action. */
    private static void refused(GutterBoats x, Class<?> want, Check.Call call) {
        String before = Check.summary(x);
        Check.throwsIt(want, call);
        Check.same("the state", Check.summary(x), before);
    }

    static void promise12_gutterAnswersItsNumber() {
        GutterBoats x = new GutterBoats();
        Check.due("gutter", x.gutter(4, 0, -7, 99), 0);
        Check.due("gutter", x.gutter(40, 5, 0, 3), 1);
        Check.due("gutter", x.gutter(10, 2, 1, 39), 2);
        Check.due("gutter", x.gutter(10, 2, 0, 0), 3);
        Check.due("gutterOf(0, 2)", x.gutterOf(0, 2), NONE);
        Check.due("gutterOf(0, 3)", x.gutterOf(0, 3), NONE);
        Check.due("gutterOf(1, 0)", x.gutterOf(1, 0), 40);
        Check.due("gutterOf(1, 1)", x.gutterOf(1, 1), 5);
        Check.due("gutterOf(2, 2)", x.gutterOf(2, 2), 1);
        Check.due("gutterOf(2, 3)", x.gutterOf(2, 3), 39);
        Check.due("about(0)", x.about(0), 4);
    }

    static void promise12_gutterRefuses() {
        GutterBoats x = new GutterBoats();
        refused(x, Check.RANGE, () -> x.gutter(3, 0, 0, 0));
        refused(x, Check.RANGE, () -> x.gutter(41, 0, 0, 0));
        refused(x, Check.RANGE, () -> x.gutter(4, -1, 0, 0));
        refused(x, Check.RANGE, () -> x.gutter(4, 6, 0, 0));
        x.gutter(5, 0, 0, 0);
        refused(x, Check.NO_SUCH, () -> x.gutter(5, 0, -1, 0));
        refused(x, Check.NO_SUCH, () -> x.gutter(5, 0, 1, 0));
        refused(x, Check.NO_SUCH, () -> x.gutter(5, 0, 0, -1));
        refused(x, Check.NO_SUCH, () -> x.gutter(5, 0, 0, 5));
        refused(x, Check.NO_SUCH, () -> x.gutter(3, 6, 0, 5));
        refused(x, Check.RANGE, () -> x.gutter(3, 0, 0, 4));
        for (int g = 1; g < 6; g++) {
            x.gutter(5, 0, g - 1, 4);
        }
        refused(x, Check.NOT_NOW, () -> x.gutter(5, 0, 5, 0));
        refused(x, Check.NO_SUCH, () -> x.gutter(5, 0, 6, 0));
        refused(x, Check.RANGE, () -> x.gutter(5, 9, 5, 0));
        Check.due("undo()", x.undo(), 5);
    }

    static void promise13_boatAnswersItsNumber() {
        GutterBoats x = new GutterBoats();
        Check.due("boat", x.boat(1, 0, 0), 0);
        Check.due("boat", x.boat(9, 3, 3), 1);
        Check.due("boat", x.boat(4, 1, 2), 2);
        Check.due("folds", x.boatOf(1, 0), 9);
        Check.due("wax", x.boatOf(1, 1), 3);
        Check.due("owner", x.boatOf(2, 2), 2);
        Check.due("state", x.boatOf(2, 3), 0);
        Check.due("ownerOf(3, 1)", x.ownerOf(3, 1), 1);
    }

    static void promise13_boatRefuses() {
        GutterBoats x = new GutterBoats();
        refused(x, Check.NO_SUCH, () -> x.boat(1, 0, -1));
        refused(x, Check.NO_SUCH, () -> x.boat(1, 0, 4));
        refused(x, Check.NO_SUCH, () -> x.boat(0, 9, 4));
        refused(x, Check.RANGE, () -> x.boat(0, 0, 0));
        refused(x, Check.RANGE, () -> x.boat(10, 0, 0));
        refused(x, Check.RANGE, () -> x.boat(1, -1, 0));
        refused(x, Check.RANGE, () -> x.boat(1, 4, 0));
        for (int b = 0; b < 10; b++) {
            Check.due("boat", x.boat(1, 0, 0), b);
        }
        refused(x, Check.NOT_NOW, () -> x.boat(1, 0, 0));
        refused(x, Check.NO_SUCH, () -> x.boat(1, 0, 4));
        refused(x, Check.RANGE, () -> x.boat(0, 0, 0));
        Check.due("undo()", x.undo(), 9);
    }

    static void promise14_launchAnswersTheWay() {
        GutterBoats x = Check.loaded("Tg102000g061004b301b302b302");
        Check.due("launch(0, 1)", x.launch(0, 1), 12);
        Check.due("launch(2, 0)", x.launch(2, 0), 10);
        Check.due("state", x.boatOf(0, 3), 1);
        Check.due("gutter", x.boatOf(0, 4), 1);
        Check.due("cell", x.boatOf(0, 5), 0);
        Check.due("launch(1, 1)", x.launch(1, 1), 12);
        Check.due("gutterOf(1, 4)", x.gutterOf(1, 4), 2);
    }

    static void promise14_aHeatBeginsWithTheFirstBoat() {
        GutterBoats x = Check.loaded("Tg045000b100b200b900");
        x.launch(0, 0);
        Check.due("heats", x.about(8), 1);
        Check.due("under way", x.about(9), 1);
        x.launch(2, 0);
        Check.due("heats", x.about(8), 1);
        x.minutes(1);
        Check.due("state", x.boatOf(0, 3), 2);
        Check.due("state", x.boatOf(2, 3), 1);
        x.launch(1, 0);
        Check.due("heats", x.about(8), 1);
        x.minutes(2);
        Check.due("under way", x.about(9), 0);
        x.launch(1, 0);
        Check.due("heats", x.about(8), 2);
    }

    static void promise14_launchRefuses() {
        GutterBoats x = Check.loaded("Tg102000b100b100");
        refused(x, Check.NO_SUCH, () -> x.launch(-1, 0));
        refused(x, Check.NO_SUCH, () -> x.launch(2, 0));
        refused(x, Check.NO_SUCH, () -> x.launch(0, -1));
        refused(x, Check.NO_SUCH, () -> x.launch(0, 1));
        Check.throwsIt(Check.NOT_NOW, x::undo);
        x.launch(0, 0);
        refused(x, Check.NOT_NOW, () -> x.launch(0, 0));
        refused(x, Check.NO_SUCH, () -> x.launch(0, 1));
        Check.due("undo()", x.undo(), 0);
    }

    static void promise14_onlyDryBoatsAreLaunched() {
        // 0 arrives while 1 is afloat, 2 sinks, 3 is claimed.
        GutterBoats x = Check.loaded("Tg045000g100000b100b930b100b100l21l31m04h0100c03l00l11m01");
        Check.due("state", x.boatOf(0, 3), 2);
        Check.due("state", x.boatOf(1, 3), 1);
        Check.due("state", x.boatOf(2, 3), 3);
        Check.due("state", x.boatOf(3, 3), 4);
        for (int b = 0; b < 4; b++) {
            int boat = b;
            refused(x, Check.NOT_NOW, () -> x.launch(boat, 0));
        }
    }

    static void promise15_hookCountsTheWrecksInReach() {
        // Wrecks in the cells 2, 6 and 16 of the gutter 0, and one in the cell 0 of the gutter 1.
        GutterBoats x = new GutterBoats();
        x.gutter(40, 1, 0, 0);
        x.gutter(10, 0, 0, 0);
        x.boat(3, 3, 0);
        x.boat(1, 1, 0);
        x.boat(1, 0, 0);
        x.boat(1, 0, 0);
        x.launch(3, 1);
        x.set(1, 1);
        x.minutes(2);
        x.launch(0, 0);
        x.minutes(16);
        x.launch(1, 0);
        x.minutes(6);
        x.launch(2, 0);
        x.minutes(2);
        Check.due("cell", x.boatOf(0, 5), 16);
        Check.due("cell", x.boatOf(1, 5), 6);
        Check.due("cell", x.boatOf(2, 5), 2);
        Check.due("wrecks", x.about(5), 4);
        Check.due("hook(0, 0, 4)", x.hook(0, 0, 4), 2);
        Check.due("hook(0, 0, 0)", x.hook(0, 0, 0), 1);
        Check.due("hook(0, 0, 9)", x.hook(0, 0, 9), 0);
        Check.due("hook(0, 1, 2)", x.hook(0, 1, 2), 1);
        Check.due("hook(1, 0, 4)", x.hook(1, 0, 4), 2);
        Check.due("hook(2, 0, 5)", x.hook(2, 0, 5), 1);
        Check.due("ownerOf(1, 4)", x.ownerOf(1, 4), 1);
        Check.due("ownerOf(2, 2)", x.ownerOf(2, 2), 0);
        Check.due("ownerOf(2, 3)", x.ownerOf(2, 3), 5);
        x.set(2, 9);
        Check.due("hook(3, 0, 11)", x.hook(3, 0, 11), 1);
        Check.due("hook(3, 0, 25)", x.hook(3, 0, 25), 1);
        Check.due("hook(3, 0, 26)", x.hook(3, 0, 26), 0);
    }

    static void promise15_hookRefuses() {
        GutterBoats x = Check.loaded("Tg102000");
        refused(x, Check.NO_SUCH, () -> x.hook(-1, 0, 0));
        refused(x, Check.NO_SUCH, () -> x.hook(4, 0, 0));
        refused(x, Check.NO_SUCH, () -> x.hook(0, -1, 0));
        refused(x, Check.NO_SUCH, () -> x.hook(0, 1, 0));
        refused(x, Check.NO_SUCH, () -> x.hook(0, 0, -1));
        refused(x, Check.NO_SUCH, () -> x.hook(0, 0, 10));
        Check.throwsIt(Check.NOT_NOW, x::undo);
        Check.due("hook(3, 0, 9)", x.hook(3, 0, 9), 0);
    }

    /** A boat of 2 folds that is a wreck in the cell 7 of the gutter 0, and one that is afloat. */
    private static GutterBoats withAWreck() {
        GutterBoats x = Check.loaded("Tg401000g100000b200b931l00m07l11");
        Check.due("cell", x.boatOf(0, 5), 7);
        Check.due("state", x.boatOf(0, 3), 3);
        return x;
    }

    static void promise16_claimBringsPointsForFolds() {
        GutterBoats x = withAWreck();
        x.hook(3, 0, 5);
        Check.due("claim(3, 0)", x.claim(3, 0), 0);
        Check.due("points", x.ownerOf(3, 0), 2);
        Check.due("points of all", x.about(12), 2);
        Check.due("state", x.boatOf(0, 3), 4);
        Check.due("gutter", x.boatOf(0, 4), NONE);
        Check.due("cell", x.boatOf(0, 5), NONE);
        Check.due("wrecks", x.gutterOf(0, 5), 0);
        Check.due("claimed", x.about(6), 1);
        Check.due("refused", x.about(11), 0);
        Check.due("claim(3, 0) again", x.claim(3, 0), 1);
        Check.due("refused", x.about(11), 1);
    }

    static void promise16_theReasons() {
        GutterBoats x = withAWreck();
        Check.due("claim(0, 1)", x.claim(0, 1), 1);
        Check.due("claim(0, 0), hook nowhere", x.claim(0, 0), 2);
        x.hook(0, 1, 7);
        Check.due("claim(0, 0), hook at another gutter", x.claim(0, 0), 2);
        x.hook(0, 0, 4);
        Check.due("claim(0, 0), three cells", x.claim(0, 0), 2);
        x.hook(0, 0, 10);
        Check.due("claim(0, 0), three cells beyond", x.claim(0, 0), 2);
        x.hook(1, 0, 8);
        x.hook(0, 0, 9);
        Check.due("claim(0, 0), another nearer", x.claim(0, 0), 3);
        x.set(2, 1);
        Check.due("claim(0, 0), too far, and another nearer", x.claim(0, 0), 2);
        Check.due("refused", x.about(11), 7);
        x.set(2, 2);
        x.hook(1, 1, 7);
        Check.due("claim(0, 0), the other one at another gutter", x.claim(0, 0), 0);
        Check.due("refused", x.about(11), 7);
    }

    static void promise16_hooksAsNearAreNoReason() {
        GutterBoats x = withAWreck();
        x.hook(0, 0, 8);
        x.hook(2, 0, 6);
        Check.due("claim(2, 0)", x.claim(2, 0), 0);
        GutterBoats y = withAWreck();
        y.set(2, 0);
        y.hook(3, 0, 7);
        y.hook(0, 0, 7);
        Check.due("claim(3, 0)", y.claim(3, 0), 0);
    }

    static void promise16_claimRefuses() {
        GutterBoats x = withAWreck();
        refused(x, Check.NO_SUCH, () -> x.claim(-1, 0));
        refused(x, Check.NO_SUCH, () -> x.claim(4, 0));
        refused(x, Check.NO_SUCH, () -> x.claim(0, -1));
        refused(x, Check.NO_SUCH, () -> x.claim(0, 2));
        Check.throwsIt(Check.NOT_NOW, x::undo);
        x.claim(0, 0);
        Check.due("undo() of a refused claim", x.undo(), 0);
        Check.due("refused", x.about(11), 0);
    }
}
