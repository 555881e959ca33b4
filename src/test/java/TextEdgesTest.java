import java.util.LinkedHashMap;
import java.util.Map;

/**
 * The sentences about the text, and the promises 1 to 5, one test for each, at its boundary, below and above it.
 * A comment ahead of a test is the sentence that it holds to.
 */
final class TextEdgesTest {
    private static final int NONE = GutterBoats.NONE;
    private static final String DIGITS = "0123456789";
    private static final String LETTERS = "gblmhcs";

    private TextEdgesTest() {
    }

    private static void error(String text, int position) {
        Check.due("errorPosition() of '" + text + "'", Check.withText(text).errorPosition(), position);
    }

    private static String times(String part, int times) {
        return part.repeat(times);
    }

    // "Creates a tournament without gutters and boats."
    static void promise01_withoutGuttersAndBoats() {
        GutterBoats x = new GutterBoats();
        Check.due("gutters", x.about(0), 0);
        Check.due("boats", x.about(1), 0);
        Check.throwsIt(Check.NO_SUCH, () -> x.gutterOf(0, 0));
        Check.throwsIt(Check.NO_SUCH, () -> x.boatOf(0, 0));
        Check.throwsIt(Check.NO_SUCH, () -> x.way(0, 0, 0));
        Check.throwsIt(Check.NO_SUCH, () -> x.launch(0, 0));
        Check.throwsIt(Check.NO_SUCH, () -> x.hook(0, 0, 0));
        Check.throwsIt(Check.NO_SUCH, () -> x.claim(0, 0));
        Check.throwsIt(Check.NO_SUCH, () -> x.why(0, 0));
        Check.throwsIt(Check.NO_SUCH, () -> x.endsIn(0, 0));
        Check.throwsIt(Check.NO_SUCH, () -> x.leastFolds(0, 0));
        Check.due("winner()", x.winner(), NONE);
    }

    // "`NONE = -1`: There is no such result."
    static void promise01_noneIsMinusOne() {
        Check.due("NONE", GutterBoats.NONE, -1);
    }

    // the text of a new object is empty, no state is remembered, and no slot is filled
    static void promise01_nothingElseIsThere() {
        Check.due("clearText()", new GutterBoats().clearText(), 0);
        Check.due("errorPosition()", new GutterBoats().errorPosition(), 0);
        Check.throwsIt(Check.NOT_NOW, () -> new GutterBoats().undo());
        Check.throwsIt(Check.NOT_NOW, () -> new GutterBoats().restore(0));
        Check.throwsIt(Check.NOT_NOW, () -> new GutterBoats().restore(1));
        Check.throwsIt(Check.NOT_NOW, () -> new GutterBoats().load());
    }

    // "character code, 0 to 255"
    static void promise02_codesOfZeroTo255() {
        GutterBoats x = new GutterBoats();
        int length = 0;
        for (int c : new int[] {0, 1, 127, 128, 254, 255}) {
            length++;
            Check.due("append", x.append(c), length);
        }
    }

    // "Throws `IllegalArgumentException` if c is out of range"
    static void promise02_otherCodesAreRefused() {
        for (int c : new int[] {-1, 256, 'T' + 256, 'T' - 256, Integer.MIN_VALUE, Integer.MAX_VALUE}) {
            Fresh.refusedByAll(Check.RANGE, x -> x.append(c));
        }
    }

    // "The object has a text buffer of at most 120 characters.": 119, 120, and one more
    static void promise02_atMost120Characters() {
        GutterBoats x = new GutterBoats();
        for (int length = 1; length <= 120; length++) {
            Check.due("append", x.append('x'), length);
        }
        Check.throwsIt(Check.NOT_NOW, () -> x.append('x'));
        Check.due("clearText()", x.clearText(), 120);
        Check.due("append behind it", x.append('T'), 1);
    }

    // "Throws `IllegalStateException` if the text already has 120 characters"
    static void promise02_theFullTextIsRefusedAndKept() {
        Fresh.refused(Fresh::full, Check.NOT_NOW, x -> x.append('0'));
        Fresh.refused(Fresh::full, Check.NOT_NOW, x -> x.append(0));
        Fresh.refused(Fresh::full, Check.NOT_NOW, x -> x.append(255));
    }

    // "If several exceptions apply to a call, the one that its description names first is thrown."
    static void promise02_theRangeIsNamedFirst() {
        Fresh.refused(Fresh::full, Check.RANGE, x -> x.append(-1));
        Fresh.refused(Fresh::full, Check.RANGE, x -> x.append(256));
    }

    // "Empties the text buffer. Returns the previous length of the text.": of the empty one, of one, and of the full one
    static void promise03_answersThePreviousLength() {
        for (int length : new int[] {0, 1, 2, 119, 120}) {
            GutterBoats x = Check.withText(times("T", length));
            Check.due("clearText()", x.clearText(), length);
            Check.due("clearText() again", x.clearText(), 0);
            Check.due("errorPosition()", x.errorPosition(), 0);
            Check.due("append('T')", x.append('T'), 1);
            Check.due("errorPosition()", x.errorPosition(), NONE);
        }
    }

    // "the state .. consists of everything but the text and the save slots"
    static void promise03_nothingButTheTextIsEmptied() {
        Fresh.Maker retyped = () -> {
            GutterBoats x = Fresh.rich();
            x.clearText();
            Check.write(x, "Tg045000g120002g061105b100b933b200b300b102b421");
            return x;
        };
        Check.same("all", Fresh.everything(retyped, x -> 0), Fresh.everything(Fresh::rich, x -> 0));
    }

    /** What may follow behind the beginnings of texts: the rest of the promise 4's tests goes by it. */
    private static Map<String, String> allowed() {
        Map<String, String> allowed = new LinkedHashMap<>();
        allowed.put("", "T");
        allowed.put("T", LETTERS);
        allowed.put("Tg", "01234");
        allowed.put("Tg0", "456789");
        allowed.put("Tg1", DIGITS);
        allowed.put("Tg2", DIGITS);
        allowed.put("Tg3", DIGITS);
        allowed.put("Tg4", "0");
        allowed.put("Tg04", "012345");
        allowed.put("Tg40", "012345");
        allowed.put("Tg040", "012345");
        allowed.put("Tg405", "012345");
        allowed.put("Tg0400", "0123");
        allowed.put("Tg4055", "0123");
        allowed.put("Tg04000", DIGITS);
        allowed.put("Tg40551", DIGITS);
        allowed.put("Tg40552", DIGITS);
        allowed.put("Tg40553", DIGITS);
        allowed.put("Tg040000", LETTERS);
        allowed.put("Tg405539", LETTERS);
        allowed.put("Tb", "123456789");
        allowed.put("Tb1", "0123");
        allowed.put("Tb9", "0123");
        allowed.put("Tb10", "0123");
        allowed.put("Tb93", "0123");
        allowed.put("Tb100", LETTERS);
        allowed.put("Tb933", LETTERS);
        allowed.put("Tl", DIGITS);
        allowed.put("Tl0", "012345");
        allowed.put("Tl9", "012345");
        allowed.put("Tl00", LETTERS);
        allowed.put("Tl95", LETTERS);
        allowed.put("Tm", "0123456");
        allowed.put("Tm0", "123456789");
        allowed.put("Tm1", DIGITS);
        allowed.put("Tm5", DIGITS);
        allowed.put("Tm6", "0");
        allowed.put("Tm01", LETTERS);
        allowed.put("Tm60", LETTERS);
        allowed.put("Th", "0123");
        allowed.put("Th0", "012345");
        allowed.put("Th3", "012345");
        allowed.put("Th00", "0123");
        allowed.put("Th35", "0123");
        allowed.put("Th000", DIGITS);
        allowed.put("Th353", DIGITS);
        allowed.put("Th0000", LETTERS);
        allowed.put("Th3539", LETTERS);
        allowed.put("Tc", "0123");
        allowed.put("Tc0", DIGITS);
        allowed.put("Tc3", DIGITS);
        allowed.put("Tc00", LETTERS);
        allowed.put("Tc39", LETTERS);
        allowed.put("Ts", "012");
        allowed.put("Ts0", DIGITS);
        allowed.put("Ts2", DIGITS);
        allowed.put("Ts00", LETTERS);
        allowed.put("Ts29", LETTERS);
        return allowed;
    }

    // "The error position is the index of the first character that these rules do not allow at its place"
    static void promise04_whatMayFollowOfAllCharacters() {
        for (Map.Entry<String, String> entry : allowed().entrySet()) {
            String beginning = entry.getKey();
            for (char c = 0; c <= 255; c++) {
                boolean isAllowed = entry.getValue().indexOf(c) >= 0;
                int error = Check.withText(beginning + c).errorPosition();
                boolean isError = error == beginning.length();
                if (isAllowed == isError) {
                    throw new Check.Wrong("behind '" + beginning + "' the character " + (int) c + " answered " + error);
                }
            }
        }
    }

    // the same sentence: the first one, and what stands behind it does not matter
    static void promise04_theFirstCharacterThatIsNotAllowed() {
        for (Map.Entry<String, String> entry : allowed().entrySet()) {
            String beginning = entry.getKey();
            for (char c : new char[] {0, ' ', '/', ':', 'T', 'x', 255}) {
                if (entry.getValue().indexOf(c) < 0) {
                    error(beginning + c + "?", beginning.length());
                    error(beginning + c + "m01", beginning.length());
                    error(beginning + c + c, beginning.length());
                }
            }
        }
    }

    // "if the text ends too soon, it is the length of the text"
    static void promise04_aTextThatEndsTooSoonHasItsLength() {
        for (Map.Entry<String, String> entry : allowed().entrySet()) {
            String text = entry.getKey();
            boolean whole = entry.getValue().equals(LETTERS);
            error(text, whole ? NONE : text.length());
            if (!text.isEmpty()) {
                String later = "Tm01l00" + text.substring(1);
                error(later, whole ? NONE : later.length());
            }
        }
    }

    // "A tournament as a text is the letter T, and then any number of commands": none, one, and as many as there can be
    static void promise04_anyNumberOfCommands() {
        error("T", NONE);
        error("Tm01", NONE);
        error("T" + times("m01", 39), NONE);
        error("Tc00h0000" + times("l00", 37), NONE);
        Check.due("its length", ("Tc00h0000" + times("l00", 37)).length(), 120);
    }

    // "a text buffer of at most 120 characters": an error in its last place, and an end too soon behind it
    static void promise04_theLastPlaceOfAFullText() {
        String text = "T" + times("m01", 39);
        error(text + "m0", 120);
        error(text + "m", 119);
        error(text + "m7", 119);
        error(text + "mm", 119);
        error(text + "x0", 118);
        error(text + "g4", 120);
        error(text + "g5", 119);
    }

    // "There are no blanks."
    static void promise04_noBlanks() {
        error(" T", 0);
        error("T ", 1);
        error("Tm 1", 2);
        error("Tm01 ", 4);
        error("Tm01 m01", 4);
        error("T\n", 1);
        error("T\t", 1);
    }

    // "Returns the error position of the text; NONE if it is a tournament." (also if its commands will be left out)
    static void promise04_commandsThatWillBeLeftOutAreNoError() {
        error("Tl95c39h3539s10s04s29g405539g405539b933", NONE);
    }

    static void promise04_errorPositionChangesNothing() {
        for (Fresh.Maker maker : Fresh.ALL) {
            Fresh.changesNothing(maker, GutterBoats::errorPosition);
        }
    }

    private static void leftOut(String text, int number) {
        GutterBoats x = Check.withText(text);
        Check.due("errorPosition() of " + text, x.errorPosition(), NONE);
        Check.due("load() of " + text, x.load(), number);
        Check.due("refused", x.about(11), 0);
    }

    // "Commands that would throw an exception .. are left out": gutters
    static void promise05_guttersThatAreLeftOut() {
        leftOut("Tg400539", 0);
        leftOut("Tg100539g100009", 0);
        leftOut("Tg100539g100010", 1);
        leftOut("Tg100000g100100", 1);
        leftOut("Tg100000g100000g100100", 0);
        String six = "Tg100000g100000g100000g100000g100000g100000";
        leftOut(six, 0);
        leftOut(six + "g100000", 1);
        leftOut(six + "g100539", 1);
    }

    // the same: boats
    static void promise05_boatsThatAreLeftOut() {
        leftOut("T" + times("b933", 10), 0);
        leftOut("T" + times("b933", 11), 1);
        leftOut("T" + times("b933", 29), 19);
    }

    // the same: launches
    static void promise05_launchesThatAreLeftOut() {
        leftOut("Tl00", 1);
        leftOut("Tg100000l00", 1);
        leftOut("Tb100l00", 1);
        leftOut("Tg100000b100l00", 0);
        leftOut("Tg100000b100l01", 1);
        leftOut("Tg100000b100l10", 1);
        leftOut("Tg100000b100l00l00", 1);
    }

    // the same: hooks
    static void promise05_hooksThatAreLeftOut() {
        leftOut("Th0000", 1);
        leftOut("Tg100000h0009h3000", 0);
        leftOut("Tg100000h0010", 1);
        leftOut("Tg100000h0100", 1);
    }

    // the same: settings, of which the text allows 0 to 9 each
    static void promise05_settingsThatAreLeftOut() {
        leftOut("Ts00s01s02s03", 0);
        leftOut("Ts04s05s06s07s08s09", 6);
        leftOut("Ts10", 1);
        leftOut("Ts11s19", 0);
        leftOut("Ts20s29", 0);
        GutterBoats x = Check.withText("Ts02s04s15s10s27");
        Check.due("load()", x.load(), 2);
        Check.due("setting(0)", x.setting(0), 2);
        Check.due("setting(1)", x.setting(1), 5);
        Check.due("setting(2)", x.setting(2), 7);
    }

    // minutes are never left out
    static void promise05_minutesAreNeverLeftOut() {
        leftOut("Tm01m60", 0);
        GutterBoats x = Check.loaded("Tm01m60");
        Check.due("minutes", x.about(7), 61);
    }

    // "and claims that are refused, are left out (these count as refused nowhere)"
    static void promise05_claimsThatAreLeftOut() {
        String wreck = "Tg400000g400000b100l00m04";
        leftOut("Tc00", 1);
        leftOut("Tb100c00", 1);
        leftOut(wreck + "c00", 1);
        leftOut(wreck + "h0002c00", 0);
        leftOut(wreck + "h0003c00", 1);
        leftOut(wreck + "h0100c00", 1);
        leftOut(wreck + "h0002h3001c00", 1);
        leftOut(wreck + "h0002h3002c00c30", 1);
        leftOut(wreck + "c01c10c39", 3);
        Check.due("points", Check.loaded(wreck + "h0002c00").ownerOf(0, 0), 1);
    }

    // "Returns the number of commands that are left out.": none of none, and all of as many as there can be
    static void promise05_noneAndAllAreLeftOut() {
        leftOut("T", 0);
        leftOut("T" + times("m01", 39), 0);
        leftOut("T" + times("l00", 39), 39);
    }

    // "The text is read from left to right."
    static void promise05_fromLeftToRight() {
        leftOut("Tg100000b100l00", 0);
        leftOut("Tl00g100000b100", 1);
        leftOut("Tl00b100g100000l00", 1);
        GutterBoats x = Check.loaded("Ts01s03s02");
        Check.due("setting(0)", x.setting(0), 2);
    }

    // "Makes everything as in a new object, and then does the commands of the text."
    static void promise05_asInANewObject() {
        for (Fresh.Maker maker : Fresh.ALL) {
            String due = Check.told(Check.loaded("Tg102000b111l00m01"));
            GutterBoats x = maker.made();
            x.clearText();
            Check.write(x, "Tg102000b111l00m01");
            Check.due("load()", x.load(), 0);
            Check.same("the state", Check.told(x), due);
            GutterBoats y = maker.made();
            y.clearText();
            y.append('T');
            Check.due("load()", y.load(), 0);
            Check.same("the state", Check.told(y), Check.told(new GutterBoats()));
        }
    }

    // "Behind it no state is remembered, and both save slots are empty." ("load and restore are not actions")
    static void promise05_noStateIsRememberedAndNoSlotFilled() {
        Fresh.Use load = GutterBoats::load;
        String due = Fresh.everything(() -> {
            GutterBoats x = new GutterBoats();
            Check.write(x, "Tg045000g120002g061105b100b933b200b300b102b421");
            return x;
        }, load);
        Check.same("all", Fresh.everything(Fresh::rich, load), due);
        GutterBoats x = Fresh.rich();
        x.load();
        Check.throwsIt(Check.NOT_NOW, x::undo);
        Check.throwsIt(Check.NOT_NOW, () -> x.restore(0));
        Check.throwsIt(Check.NOT_NOW, () -> x.restore(1));
    }

    // the same: the actions behind a load are remembered, fourteen of them
    static void promise05_actionsBehindALoadAreRemembered() {
        GutterBoats x = Fresh.rich();
        x.load();
        String loaded = Check.told(x);
        for (int i = 0; i < 14; i++) {
            x.minutes(1);
        }
        for (int left = 13; left >= 0; left--) {
            Check.due("undo()", x.undo(), left);
        }
        Check.same("the state", Check.told(x), loaded);
        Check.throwsIt(Check.NOT_NOW, x::undo);
    }

    // "Keeps the text": with it and without it
    static void promise05_keepsTheText() {
        GutterBoats x = Check.withText("Tm05");
        x.load();
        Check.due("append('m')", x.append('m'), 5);
        Check.throwsIt(Check.NOT_NOW, x::load);
        Check.due("errorPosition()", x.errorPosition(), 5);
        Check.due("append('0')", x.append('0'), 6);
        Check.due("append('1')", x.append('1'), 7);
        Check.due("load()", x.load(), 0);
        Check.due("minutes", x.about(7), 6);
        Check.due("clearText()", x.clearText(), 7);
    }

    // "Throws `IllegalStateException` if the text is not a tournament": empty, cut short, and with an error, also at the
    // end of a full text; "Keeps the text, also if it throws the exception"
    static void promise05_otherTextsAreRefused() {
        String[] texts = {"", "t", "Tm0", "Tm61", "Tm01x", "T" + times("m01", 39) + "m0", "T" + times("m01", 39) + "mx"};
        for (String text : texts) {
            Fresh.Maker maker = () -> {
                GutterBoats x = Fresh.rich();
                x.clearText();
                Check.write(x, text);
                return x;
            };
            Fresh.refused(maker, Check.NOT_NOW, GutterBoats::load);
        }
        Fresh.refused(Fresh::full, Check.NOT_NOW, GutterBoats::load);
    }
}
