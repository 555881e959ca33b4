/** Promises 26 and 27: the save slots. */
final class SlotsTest {
    private SlotsTest() {
    }

    static void promise26_saveAnswersTheMinutes() {
        GutterBoats x = new GutterBoats();
        Check.due("save(0)", x.save(0), 0);
        x.minutes(7);
        Check.due("save(1)", x.save(1), 7);
        Check.due("save(0)", x.save(0), 7);
    }

    static void promise26_saveIsNoAction() {
        GutterBoats x = Check.loaded("Tg102000b100l00m02");
        String before = Check.told(x);
        x.save(0);
        Check.same("the state", Check.told(x), before);
        Check.throwsIt(Check.NOT_NOW, x::undo);
        x.minutes(1);
        x.save(0);
        Check.due("undo()", x.undo(), 0);
    }

    static void promise26_saveRefuses() {
        GutterBoats x = new GutterBoats();
        Check.throwsIt(Check.NO_SUCH, () -> x.save(-1));
        Check.throwsIt(Check.NO_SUCH, () -> x.save(2));
        Check.throwsIt(Check.NO_SUCH, () -> x.save(Integer.MIN_VALUE));
        Check.throwsIt(Check.NOT_NOW, () -> x.restore(0));
        Check.throwsIt(Check.NOT_NOW, () -> x.restore(1));
    }

    static void promise27_restoreBringsTheStateBack() {
        GutterBoats x = Check.loaded("Tg102000g061004b300b121b911b432l01l11l21m01h2103s12");
        String first = Check.told(x);
        x.save(0);
        x.minutes(4);
        x.launch(3, 0);
        x.claim(0, 0);
        String second = Check.summary(x);
        x.save(1);
        x.minutes(60);
        x.gutter(5, 0, 0, 0);
        x.set(0, 3);
        Check.due("restore(0)", x.restore(0), 1);
        Check.same("the state", Check.told(x), first);
        Check.due("restore(1)", x.restore(1), 5);
        Check.same("the state", Check.summary(x), second);
        x.minutes(10);
        Check.due("restore(1)", x.restore(1), 5);
        Check.due("restore(0)", x.restore(0), 1);
        Check.same("the state", Check.told(x), first);
    }

    static void promise27_restoreForgetsTheRememberedStates() {
        GutterBoats x = new GutterBoats();
        x.minutes(1);
        x.save(0);
        x.minutes(1);
        x.restore(0);
        Check.throwsIt(Check.NOT_NOW, x::undo);
        x.minutes(1);
        Check.due("undo()", x.undo(), 0);
        Check.due("about(7)", x.about(7), 1);
    }

    static void promise27_restoreLeavesTheText() {
        GutterBoats x = new GutterBoats();
        x.save(1);
        x.append('T');
        x.append('m');
        x.restore(1);
        Check.due("errorPosition()", x.errorPosition(), 2);
    }

    static void promise27_restoreRefuses() {
        GutterBoats x = Check.withText("T");
        Check.throwsIt(Check.NO_SUCH, () -> x.restore(-1));
        Check.throwsIt(Check.NO_SUCH, () -> x.restore(2));
        x.minutes(3);
        x.save(1);
        Check.throwsIt(Check.NOT_NOW, () -> x.restore(0));
        Check.due("undo()", x.undo(), 0);
        x.load();
        Check.throwsIt(Check.NOT_NOW, () -> x.restore(1));
        Check.throwsIt(Check.NO_SUCH, () -> x.restore(2));
    }
}
