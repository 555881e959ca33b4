/** Promises 1 to 5: a new object and the text. */
final class TextTest {
    private static final int NONE = GutterBoats.NONE;

    private TextTest() {
    }

    static void promise01_newObjectHasNothing() {
        GutterBoats x = new GutterBoats();
        for (int what = 0; what <= 13; what++) {
            Check.due("about(" + what + ")", x.about(what), 0);
        }
        Check.due("setting(0)", x.setting(0), 0);
        Check.due("setting(1)", x.setting(1), 3);
        Check.due("setting(2)", x.setting(2), 2);
        for (int o = 0; o < 4; o++) {
            Check.due("points", x.ownerOf(o, 0), 0);
            Check.due("boats", x.ownerOf(o, 1), 0);
            Check.due("hook's gutter", x.ownerOf(o, 2), NONE);
            Check.due("hook's cell", x.ownerOf(o, 3), NONE);
            Check.due("claimable", x.ownerOf(o, 4), 0);
        }
        Check.due("winner()", x.winner(), NONE);
        Check.due("clearText()", x.clearText(), 0);
        Check.throwsIt(Check.NOT_NOW, x::undo);
        Check.throwsIt(Check.NOT_NOW, () -> x.restore(0));
        Check.throwsIt(Check.NOT_NOW, () -> x.restore(1));
        Check.due("NONE", NONE, -1);
    }

    static void promise01_objectsShareNothing() {
        GutterBoats x = new GutterBoats();
        GutterBoats y = new GutterBoats();
        x.append('T');
        x.gutter(10, 1, 0, 0);
        x.save(0);
        Check.due("about(0)", y.about(0), 0);
        Check.due("clearText()", y.clearText(), 0);
        Check.throwsIt(Check.NOT_NOW, y::undo);
        Check.throwsIt(Check.NOT_NOW, () -> y.restore(0));
    }

    static void promise02_appendAnswersTheLength() {
        GutterBoats x = new GutterBoats();
        Check.due("append(0)", x.append(0), 1);
        Check.due("append(255)", x.append(255), 2);
        Check.due("append('T')", x.append('T'), 3);
    }

    static void promise02_appendRefusesOtherCodesAndAFullText() {
        GutterBoats x = new GutterBoats();
        Check.throwsIt(Check.RANGE, () -> x.append(-1));
        Check.throwsIt(Check.RANGE, () -> x.append(256));
        Check.throwsIt(Check.RANGE, () -> x.append(Integer.MIN_VALUE));
        Check.throwsIt(Check.RANGE, () -> x.append(Integer.MAX_VALUE));
        for (int i = 1; i <= 120; i++) {
            Check.due("append", x.append('T'), i);
        }
        Check.throwsIt(Check.NOT_NOW, () -> x.append('T'));
        Check.throwsIt(Check.RANGE, () -> x.append(256));
        Check.throwsIt(Check.RANGE, () -> x.append(-1));
        Check.due("clearText()", x.clearText(), 120);
    }

    static void promise03_clearTextAnswersThePreviousLength() {
        GutterBoats x = Check.withText("Tm01");
        Check.due("clearText()", x.clearText(), 4);
        Check.due("clearText()", x.clearText(), 0);
        Check.due("errorPosition()", x.errorPosition(), 0);
        Check.due("append('T')", x.append('T'), 1);
        Check.due("errorPosition()", x.errorPosition(), NONE);
    }

    static void promise03_clearTextLeavesTheStateAndIsNoAction() {
        GutterBoats x = Check.loaded("Tg102000m05");
        x.clearText();
        Check.due("about(0)", x.about(0), 1);
        Check.due("about(7)", x.about(7), 5);
        Check.throwsIt(Check.NOT_NOW, x::undo);
    }

    private static void error(String text, int position) {
        Check.due("errorPosition() of '" + text + "'", Check.withText(text).errorPosition(), position);
    }

    static void promise04_tournamentsHaveNoError() {
        String[] texts = {"T", "Tg040000", "Tg405539", "Tg105539", "Tg391000", "Tb100", "Tb100b933", "Tl00", "Tl95", "Tm01",
            "Tm09", "Tm10", "Tm59", "Tm60", "Th0000", "Th3539", "Tc00", "Tc39", "Ts00", "Ts29", "Tm01m01s09c00"};
        for (String text : texts) {
            // A boat has three digits, a gutter six: shorter ones above end too soon.
            boolean whole = text.matches("T(g\\d{6}|b\\d{3}|l\\d\\d|m\\d\\d|h\\d{4}|c\\d\\d|s\\d\\d)*");
            error(text, whole ? NONE : text.length());
        }
    }

    static void promise04_eachTextThatEndsTooSoonHasItsLength() {
        error("", 0);
        String text = "Tg102000b311l00m05h0000c00s01";
        String ends = "";
        for (int length = 1; length <= text.length(); length++) {
            boolean whole = text.substring(0, length).matches("T(g\\d{6}|b\\d{3}|l\\d\\d|m\\d\\d|h\\d{4}|c\\d\\d|s\\d\\d)*");
            error(text.substring(0, length), whole ? NONE : length);
            ends += whole ? length + " " : "";
        }
        Check.same("the ends of commands", ends, "1 8 12 15 18 23 26 29 ");
    }

    static void promise04_theFirstCharacterThatIsNotAllowed() {
        error("t", 0);
        error("m01", 0);
        error(" T", 0);
        error("T ", 1);
        error("TT", 1);
        error("Tx", 1);
        error("T0", 1);
        error("TG", 1);
        error("Tm 1", 2);
        error("Tm01 ", 4);
        error("Tm01x", 4);
        error("Tm0x!", 3);
        error("T\u00ff", 1);
        error("T\u0000", 1);
    }

    static void promise04_theNumbersHaveRanges() {
        error("Tg03", 3);
        error("Tg00", 3);
        error("Tg41", 3);
        error("Tg5", 2);
        error("Tg046", 4);
        error("Tg0456", 5);
        error("Tg04004", 6);
        error("Tg040040", 6);
        error("Tg04003:", 7);
        error("Tb0", 2);
        error("Tb:", 2);
        error("Tb/", 2);
        error("Tb14", 3);
        error("Tb104", 4);
        error("Tl:", 2);
        error("Tl06", 3);
        error("Tm00", 3);
        error("Tm61", 3);
        error("Tm7", 2);
        error("Th4", 2);
        error("Th06", 3);
        error("Th004", 4);
        error("Th000/", 5);
        error("Tc4", 2);
        error("Tc0a", 3);
        error("Ts3", 2);
        error("Ts0-", 3);
        error("Tg04000:", 7);
        error("Th000:", 5);
        error("Tm0:", 3);
        error("Tm1/", 3);
    }

    static void promise04_aFullText() {
        StringBuilder s = new StringBuilder("Tg102000");
        while (s.length() < 119) {
            s.append("l00");
        }
        s.setLength(120);
        Check.due("its length", s.length(), 120);
        error(s.toString(), 119);
        error(s.substring(0, 119), NONE);
        error(s.substring(0, 119) + "l", 120);
        error(s.substring(0, 119) + "0", 119);
        s.setLength(0);
        s.append("Tg102000b311");
        while (s.length() < 120) {
            s.append("m01");
        }
        error(s.toString(), NONE);
        GutterBoats x = Check.loaded(s.toString());
        Check.due("about(7)", x.about(7), 36);
    }

    static void promise04_errorPositionChangesNothing() {
        GutterBoats x = Check.loaded("Tg102000m05");
        x.append('m');
        String before = Check.told(x);
        Check.due("errorPosition()", x.errorPosition(), 12);
        Check.same("the state", Check.told(x), before);
        Check.throwsIt(Check.NOT_NOW, x::undo);
        Check.due("clearText()", x.clearText(), 12);
    }

    static void promise05_loadDoesTheCommands() {
        GutterBoats x = Check.loaded("Tg102000g061004b301b122l01m01h2103s03s15s24");
        Check.due("gutters", x.about(0), 2);
        Check.due("length", x.gutterOf(0, 0), 10);
        Check.due("current", x.gutterOf(0, 1), 2);
        Check.due("into", x.gutterOf(0, 2), NONE);
        Check.due("length", x.gutterOf(1, 0), 6);
        Check.due("current", x.gutterOf(1, 1), 1);
        Check.due("into", x.gutterOf(1, 2), 0);
        Check.due("cell", x.gutterOf(1, 3), 4);
        Check.due("boats", x.about(1), 2);
        Check.due("folds", x.boatOf(0, 0), 3);
        Check.due("wax", x.boatOf(0, 1), 0);
        Check.due("owner", x.boatOf(0, 2), 1);
        Check.due("folds", x.boatOf(1, 0), 1);
        Check.due("wax", x.boatOf(1, 1), 2);
        Check.due("owner", x.boatOf(1, 2), 2);
        Check.due("state", x.boatOf(0, 3), 1);
        Check.due("gutter", x.boatOf(0, 4), 1);
        Check.due("cell", x.boatOf(0, 5), 1);
        Check.due("minutes", x.about(7), 1);
        Check.due("hook's gutter", x.ownerOf(2, 2), 1);
        Check.due("hook's cell", x.ownerOf(2, 3), 3);
        Check.due("rain", x.setting(0), 3);
        Check.due("minutes for a fold", x.setting(1), 5);
        Check.due("reach", x.setting(2), 4);
    }

    static void promise05_loadCountsWhatIsLeftOut() {
        GutterBoats x = Check.withText("Tl00m02g402510g051110b100l00l00h0005h0100c00c01s04s10s29b200");
        Check.due("errorPosition()", x.errorPosition(), NONE);
        // l00 without a boat, the second gutter into itself, the second l00, h0100, c00 of a boat that is
        // afloat, c01 of none, s04 and s10.
        Check.due("load()", x.load(), 8);
        Check.due("refused", x.about(11), 0);
        Check.due("gutters", x.about(0), 1);
        Check.due("boats", x.about(1), 2);
        Check.due("afloat", x.about(3), 1);
        Check.due("rain", x.setting(0), 0);
        Check.due("reach", x.setting(2), 9);
    }

    static void promise05_claimsInATextBringPoints() {
        GutterBoats x = Check.loaded("Tg100000b203l00m07h1002c10");
        Check.due("state", x.boatOf(0, 3), 4);
        Check.due("points", x.ownerOf(1, 0), 2);
        Check.due("points", x.ownerOf(3, 0), 0);
    }

    static void promise05_loadBeginsAnewAndForgets() {
        GutterBoats x = Check.withText("Tg102000b300");
        x.gutter(20, 1, 0, 0);
        x.boat(3, 1, 2);
        x.set(0, 2);
        x.launch(0, 0);
        x.minutes(3);
        x.hook(1, 0, 3);
        x.claim(1, 0);
        x.save(0);
        x.save(1);
        Check.due("load()", x.load(), 0);
        Check.same("the state", Check.told(x), Check.told(Check.loaded("Tg102000b300")));
        Check.throwsIt(Check.NOT_NOW, x::undo);
        Check.throwsIt(Check.NOT_NOW, () -> x.restore(0));
        Check.throwsIt(Check.NOT_NOW, () -> x.restore(1));
        Check.due("clearText()", x.clearText(), 12);
    }

    static void promise05_loadTwiceIsTheSame() {
        GutterBoats x = Check.loaded("Tg102000g061004b301b122l01m03");
        String once = Check.told(x);
        Check.due("load()", x.load(), 0);
        Check.same("the state", Check.told(x), once);
    }

    static void promise05_loadOfAnotherTextChangesNothing() {
        GutterBoats x = Check.withText("Tg102000m");
        x.gutter(20, 1, 0, 0);
        x.minutes(4);
        x.save(1);
        String before = Check.told(x);
        Check.throwsIt(Check.NOT_NOW, x::load);
        Check.same("the state", Check.told(x), before);
        Check.due("clearText()", x.clearText(), 9);
        Check.throwsIt(Check.NOT_NOW, x::load);
        Check.due("restore(1)", x.restore(1), 4);
        Check.throwsIt(Check.NOT_NOW, x::undo);
        x.minutes(1);
        Check.throwsIt(Check.NOT_NOW, x::load);
        Check.due("undo()", x.undo(), 0);
    }
}
