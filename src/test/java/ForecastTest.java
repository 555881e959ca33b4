/** Promises 20 to 23: what would be, if nothing else is done. */
final class ForecastTest {
    private static final int NONE = GutterBoats.NONE;

    private ForecastTest() {
    }

    static void promise20_whyTellsTheReasons() {
        GutterBoats x = Check.loaded("Tg401000g100000b200b931l00m07l11");
        String before = Check.told(x);
        Check.due("why(0, 1)", x.why(0, 1), 1);
        Check.due("why(0, 0)", x.why(0, 0), 2);
        Check.same("the state", Check.told(x), before);
        Check.due("refused", x.about(11), 0);
        x.hook(0, 0, 9);
        Check.due("why(0, 0)", x.why(0, 0), 0);
        x.hook(0, 0, 10);
        Check.due("why(0, 0)", x.why(0, 0), 2);
        x.hook(0, 0, 5);
        Check.due("why(0, 0)", x.why(0, 0), 0);
        x.hook(3, 0, 8);
        Check.due("why(0, 0)", x.why(0, 0), 3);
        Check.due("why(3, 0)", x.why(3, 0), 0);
        x.hook(3, 0, 9);
        Check.due("why(0, 0)", x.why(0, 0), 0);
        Check.due("why(3, 0)", x.why(3, 0), 0);
        x.hook(3, 1, 7);
        Check.due("why(3, 0)", x.why(3, 0), 2);
        Check.due("claim(0, 0)", x.claim(0, 0), 0);
        Check.due("why(0, 0)", x.why(0, 0), 1);
    }

    static void promise20_whyRefuses() {
        GutterBoats x = Check.loaded("Tb100");
        Check.throwsIt(Check.NO_SUCH, () -> x.why(-1, 0));
        Check.throwsIt(Check.NO_SUCH, () -> x.why(4, 0));
        Check.throwsIt(Check.NO_SUCH, () -> x.why(0, -1));
        Check.throwsIt(Check.NO_SUCH, () -> x.why(0, 1));
        Check.throwsIt(Check.NOT_NOW, x::undo);
    }

    private static void ends(GutterBoats x, int b, int arrives, int sinks) {
        Check.due("endsIn(" + b + ", 0)", x.endsIn(b, 0), arrives);
        Check.due("endsIn(" + b + ", 1)", x.endsIn(b, 1), sinks);
    }

    static void promise21_endsInTellsWhenABoatArrivesOrSinks() {
        GutterBoats x = Check.loaded("Tg102000g061004b300b121b911b432l01l11l21m01");
        ends(x, 0, 8, NONE);
        ends(x, 1, 8, NONE);
        ends(x, 2, NONE, 31);
        String before = Check.told(x);
        ends(x, 0, 8, NONE);
        Check.same("the state", Check.told(x), before);
        x.minutes(8);
        Check.due("state", x.boatOf(0, 3), 2);
        Check.due("state", x.boatOf(1, 3), 2);
        Check.due("state", x.boatOf(2, 3), 1);
        ends(x, 2, NONE, 23);
        x.minutes(22);
        Check.due("state", x.boatOf(2, 3), 1);
        ends(x, 2, NONE, 1);
        x.minutes(1);
        Check.due("state", x.boatOf(2, 3), 3);
    }

    static void promise21_theLastBoatOfAHeatArrivesToo() {
        GutterBoats x = Check.loaded("Tg041000b330l00");
        ends(x, 0, 4, NONE);
        x.minutes(3);
        ends(x, 0, 1, NONE);
    }

    static void promise21_theOthersCount() {
        // 0 sinks in the cell 4 and holds 1 up.
        GutterBoats x = Check.loaded("Tg101000b100b200l10");
        x.set(1, 5);
        ends(x, 1, 10, NONE);
        x.set(1, 3);
        ends(x, 1, NONE, 7);
        x.set(1, 4);
        ends(x, 1, NONE, 9);
        x.boat(2, 2, 0);
        x.launch(2, 0);
        ends(x, 2, NONE, 17);
    }

    static void promise21_theLongestVoyage() {
        GutterBoats x = Check.loaded("Tg041000s19b930l00");
        ends(x, 0, NONE, 94);
    }

    static void promise21_endsInRefuses() {
        GutterBoats x = Check.loaded("Tg041000b330b330l00");
        Check.throwsIt(Check.NO_SUCH, () -> x.endsIn(-1, 0));
        Check.throwsIt(Check.NO_SUCH, () -> x.endsIn(2, 0));
        Check.throwsIt(Check.NO_SUCH, () -> x.endsIn(2, 5));
        Check.throwsIt(Check.RANGE, () -> x.endsIn(0, -1));
        Check.throwsIt(Check.RANGE, () -> x.endsIn(0, 2));
        Check.throwsIt(Check.RANGE, () -> x.endsIn(1, 2));
        Check.throwsIt(Check.NOT_NOW, () -> x.endsIn(1, 0));
        Check.throwsIt(Check.NOT_NOW, () -> x.endsIn(1, 1));
        x.launch(1, 0);
        x.minutes(2);
        x.boat(1, 0, 0);
        x.launch(2, 0);
        x.minutes(2);
        Check.due("state", x.boatOf(0, 3), 2);
        Check.throwsIt(Check.NOT_NOW, () -> x.endsIn(0, 0));
    }

    static void promise22_winnerOfTheHeatUnderWay() {
        GutterBoats x = Check.loaded("Tg111000b300b300b300");
        Check.due("winner() without a heat", x.winner(), NONE);
        x.launch(1, 0);
        String before = Check.told(x);
        Check.due("winner()", x.winner(), NONE);
        Check.same("the state", Check.told(x), before);
        x.set(1, 9);
        Check.due("winner()", x.winner(), 1);
        x.launch(2, 0);
        Check.due("winner()", x.winner(), 1);
        x.launch(0, 0);
        Check.due("winner() of three as fast", x.winner(), 0);
        x.minutes(11);
        Check.due("under way", x.about(9), 0);
        Check.due("wins", x.boatOf(0, 8), 1);
        Check.due("winner() behind the heat", x.winner(), NONE);
    }

    static void promise22_whoHasArrivedFirstWins() {
        // 1 has arrived first, and 0 is still afloat; 1 has won a heat before, too.
        GutterBoats x = Check.loaded("Tg042000b930b100l10m02l00l10m02");
        Check.due("won", x.about(10), 1);
        Check.due("state", x.boatOf(1, 3), 2);
        Check.due("place", x.boatOf(1, 7), 1);
        Check.due("winner()", x.winner(), 1);
        x.set(0, 3);
        Check.due("winner()", x.winner(), 1);
    }

    static void promise22_nobodyWinsIfAllSink() {
        GutterBoats x = Check.loaded("Tg100000b100b200l00l10");
        Check.due("winner()", x.winner(), NONE);
    }

    static void promise23_leastFoldsToArrive() {
        GutterBoats x = Check.loaded("Tg102000g061004");
        // From the gutter 1: 6 cells by 1, and then 3 minutes: 9 minutes, 8 of them soak.
        Check.due("leastFolds(1, 0)", x.leastFolds(1, 0), 3);
        Check.due("leastFolds(1, 1)", x.leastFolds(1, 1), 2);
        Check.due("leastFolds(1, 2)", x.leastFolds(1, 2), 1);
        Check.due("leastFolds(0, 0)", x.leastFolds(0, 0), 2);
        Check.due("leastFolds(0, 3)", x.leastFolds(0, 3), 1);
        x.set(0, 1);
        Check.due("leastFolds(1, 0)", x.leastFolds(1, 0), 3);
    }

    static void promise23_nineFoldsAreTriedToo() {
        // Nine folds have ten minutes of 6 cells, eight have nine, seven have eight of 7 cells.
        GutterBoats x = Check.loaded("Tg405000g205000g045100s03s14");
        Check.due("way(1, 0)", x.way(1, 0, 0), 60);
        Check.due("leastFolds(1, 0)", x.leastFolds(1, 0), 9);
        Check.due("leastFolds(2, 0)", x.leastFolds(2, 0), NONE);
    }

    static void promise23_noneArrivesWithoutACurrent() {
        GutterBoats x = Check.loaded("Tg100000");
        Check.due("leastFolds(0, 3)", x.leastFolds(0, 3), NONE);
        x.set(0, 1);
        // 10 minutes, 9 of them soak by 2, and no fold too many to drift: 3 * 3 + 4 * 3 is enough.
        Check.due("leastFolds(0, 3)", x.leastFolds(0, 3), 2);
        Check.due("leastFolds(0, 2)", x.leastFolds(0, 2), NONE);
    }

    static void promise23_wrecksHoldTheTriedBoatUp() {
        GutterBoats x = Check.loaded("Tg401000b100l00m03");
        x.set(1, 9);
        Check.due("leastFolds(0, 3)", x.leastFolds(0, 3), NONE);
        GutterBoats y = Check.loaded("Tg101000b100l00m03");
        y.set(1, 9);
        Check.due("leastFolds(0, 3)", y.leastFolds(0, 3), 1);
        y.set(1, 3);
        Check.due("leastFolds(0, 3)", y.leastFolds(0, 3), NONE);
    }

    static void promise23_oneMoreBoatAlsoBeyondTen() {
        GutterBoats x = Check.loaded("Tg102000");
        for (int b = 0; b < 10; b++) {
            x.boat(1, 0, 0);
        }
        Check.due("leastFolds(0, 3)", x.leastFolds(0, 3), 1);
        Check.due("leastFolds(0, 0)", x.leastFolds(0, 0), 2);
        for (int b = 0; b < 10; b++) {
            x.launch(b, 0);
        }
        String before = Check.told(x);
        // The others sink in the cell 8 in the fourth minute, ahead of the tried boat.
        Check.due("leastFolds(0, 0)", x.leastFolds(0, 0), NONE);
        Check.same("the state", Check.told(x), before);
        Check.throwsIt(Check.NOT_NOW, () -> x.boat(1, 0, 0));
        x.minutes(60);
        Check.due("leastFolds(0, 0)", x.leastFolds(0, 0), NONE);
    }

    static void promise23_leastFoldsRefuses() {
        GutterBoats x = Check.loaded("Tg102000");
        Check.throwsIt(Check.NO_SUCH, () -> x.leastFolds(-1, 0));
        Check.throwsIt(Check.NO_SUCH, () -> x.leastFolds(1, 0));
        Check.throwsIt(Check.NO_SUCH, () -> x.leastFolds(1, 4));
        Check.throwsIt(Check.RANGE, () -> x.leastFolds(0, -1));
        Check.throwsIt(Check.RANGE, () -> x.leastFolds(0, 4));
        Check.throwsIt(Check.NOT_NOW, x::undo);
    }
}
