/**
 * The promises 20 to 23, one test for each sentence, at its boundary, below and above it.
 * A comment ahead of a test is the sentence that it holds to.
 */
final class ForecastEdgesTest {
    private static final int NONE = GutterBoats.NONE;

    private ForecastEdgesTest() {
    }

    private static int[] outside(int beyond) {
        return new int[] {-1, -2, Integer.MIN_VALUE, beyond, beyond + 1, Integer.MAX_VALUE};
    }

    // ---- why

    // "Throws `IndexOutOfBoundsException` if there is no such owner or boat"
    static void promise20_ownersAndBoats() {
        for (int o : outside(4)) {
            Fresh.refusedByAll(Check.NO_SUCH, x -> x.why(o, 0));
        }
        for (Fresh.Maker maker : Fresh.ALL) {
            for (int b : outside(maker.made().about(1))) {
                Fresh.refused(maker, Check.NO_SUCH, x -> x.why(0, b));
            }
        }
        for (int o = 0; o <= 3; o++) {
            Check.due("why of the last boat", Fresh.full().why(o, 9), 1);
        }
    }

    // "Returns the reason; 0 if it is not." (and "these .. change nothing": not the count of refused claims either)
    static void promise20_answersTheReasonAndChangesNothing() {
        int[] reasons = {1, 1, 1, 2, 1, 1};
        for (int o = 0; o <= 3; o++) {
            for (int b = 0; b < 6; b++) {
                int owner = o;
                int boat = b;
                Check.due("why(" + o + ", " + b + ")", Fresh.rich().why(o, b), o == 1 && b == 3 ? 0 : reasons[b]);
                Fresh.changesNothing(Fresh::rich, x -> x.why(owner, boat));
            }
        }
        GutterBoats x = Fresh.rich();
        x.hook(0, 1, 1);
        Check.due("why(1, 3)", x.why(1, 3), 3);
        Check.due("why(0, 3)", x.why(0, 3), 0);
    }

    // ---- endsIn

    // "Throws `IndexOutOfBoundsException` if there is no such boat"
    static void promise21_boats() {
        for (Fresh.Maker maker : Fresh.ALL) {
            for (int b : outside(maker.made().about(1))) {
                Fresh.refused(maker, Check.NO_SUCH, x -> x.endsIn(b, 0));
                Fresh.refused(maker, Check.NO_SUCH, x -> x.endsIn(b, 1));
            }
        }
        for (int what = 0; what <= 1; what++) {
            Check.due("endsIn of the last boat", Fresh.full().endsIn(9, what), ends(Fresh.full(), 9)[what]);
        }
    }

    // "Throws `IllegalArgumentException` if what is neither 0 nor 1"
    static void promise21_zeroOrOne() {
        for (int what : outside(2)) {
            Fresh.refused(Fresh::rich, Check.RANGE, x -> x.endsIn(1, what));
            Fresh.refused(Fresh::full, Check.RANGE, x -> x.endsIn(9, what));
        }
    }

    // "Throws `IllegalStateException` if it is not afloat": arrived, sunk, claimed, dry
    static void promise21_onlyBoatsThatAreAfloat() {
        for (int b : new int[] {0, 3, 4, 5}) {
            Fresh.refused(Fresh::rich, Check.NOT_NOW, x -> x.endsIn(b, 0));
            Fresh.refused(Fresh::rich, Check.NOT_NOW, x -> x.endsIn(b, 1));
        }
        for (int b : new int[] {1, 2}) {
            Fresh.changesNothing(Fresh::rich, x -> x.endsIn(b, 0) + x.endsIn(b, 1));
        }
    }

    // "If several exceptions apply to a call, the one that its description names first is thrown.": each two, and all
    static void promise21_theFirstNamedException() {
        Fresh.refused(Fresh::rich, Check.NO_SUCH, x -> x.endsIn(6, 2));
        Fresh.refused(Fresh::rich, Check.NO_SUCH, x -> x.endsIn(-1, -1));
        for (int b : new int[] {0, 3, 4, 5}) {
            Fresh.refused(Fresh::rich, Check.RANGE, x -> x.endsIn(b, 2));
            Fresh.refused(Fresh::rich, Check.RANGE, x -> x.endsIn(b, -1));
        }
    }

    /** Behind how many minutes a boat arrives, and sinks, seen by letting them go by. */
    private static int[] ends(GutterBoats x, int b) {
        for (int n = 1; n <= 100; n++) {
            x.minutes(1);
            int state = x.boatOf(b, 3);
            if (state != 1) {
                return state == 3 ? new int[] {NONE, n} : new int[] {n, NONE};
            }
        }
        throw new Check.Wrong("the boat " + b + " is afloat for ever");
    }

    // "0: behind how many minutes it arrives; 1: behind how many minutes it sinks"; "Returns that number; NONE if it does
    // not (each boat that is afloat does one of both)": as the minutes tell that go by then
    static void promise21_asTheMinutesTellThen() {
        String[] texts = {"Tg041000b330l00", "Tg041000b100l00", "Tg051000b100l00", "Tg400000b930l00", "Tg405000g401000b100b930l01l11",
            "Tg101000g102004b100b200b311b422l00l11l21l31m02", "Tg101000b100b930b920b911s03l00l10l20l30",
            "Tg203000g103002g201005s13b400b410b420b430b500b510b520b530l00l11l20l31l40l51l60l71m02s01"};
        for (String text : texts) {
            GutterBoats x = Check.withText(text);
            x.load();
            for (int b = 0; b < x.about(1); b++) {
                int boat = b;
                if (x.boatOf(b, 3) != 1) {
                    continue;
                }
                GutterBoats y = Check.withText(text);
                y.load();
                int[] due = ends(y, b);
                Check.due(text + ": endsIn(" + b + ", 0)", x.endsIn(b, 0), due[0]);
                Check.due(text + ": endsIn(" + b + ", 1)", x.endsIn(b, 1), due[1]);
                Fresh.changesNothing(() -> {
                    GutterBoats z = Check.withText(text);
                    z.load();
                    return z;
                }, z -> z.endsIn(boat, 0) + z.endsIn(boat, 1));
            }
        }
    }

    // the same: in the very next minute
    static void promise21_inTheNextMinute() {
        GutterBoats arrives = Check.loaded("Tg041000b330l00m03");
        Check.due("endsIn(0, 0)", arrives.endsIn(0, 0), 1);
        Check.due("endsIn(0, 1)", arrives.endsIn(0, 1), NONE);
        GutterBoats sinks = Check.loaded("Tg400000b100l00m03");
        Check.due("endsIn(0, 0)", sinks.endsIn(0, 0), NONE);
        Check.due("endsIn(0, 1)", sinks.endsIn(0, 1), 1);
    }

    // the same: with the greatest soak that it can have it arrives in time, or a cell too late
    static void promise21_inTimeOrACellTooLate() {
        GutterBoats inTime = Check.loaded("Tg041000b100l00");
        Check.due("endsIn(0, 0)", inTime.endsIn(0, 0), 4);
        Check.due("endsIn(0, 1)", inTime.endsIn(0, 1), NONE);
        GutterBoats tooLate = Check.loaded("Tg051000b100l00");
        Check.due("endsIn(0, 0)", tooLate.endsIn(0, 0), NONE);
        Check.due("endsIn(0, 1)", tooLate.endsIn(0, 1), 4);
    }

    // the longest voyages: 94 minutes to sink, and 94 minutes to arrive
    static void promise21_theLongestVoyages() {
        GutterBoats sinks = Check.loaded("Tg400000s19b930l00");
        Check.due("endsIn(0, 1)", sinks.endsIn(0, 1), 94);
        Check.due("endsIn(0, 0)", sinks.endsIn(0, 0), NONE);
        GutterBoats x = Check.loaded("Tg403000g403000g143126s19b930");
        Check.due("launch(0, 2)", x.launch(0, 2), 14 + 14 + 40);
        Check.due("endsIn(0, 0)", x.endsIn(0, 0), 68);
        GutterBoats y = Check.loaded("Tg403000g403000g403126s19b930");
        Check.due("launch(0, 2)", y.launch(0, 2), 40 + 14 + 40);
        Check.due("endsIn(0, 0)", y.endsIn(0, 0), 94);
        Check.due("endsIn(0, 1)", y.endsIn(0, 1), NONE);
        GutterBoats z = Check.loaded("Tg403000g403000g403125s19b930");
        Check.due("launch(0, 2)", z.launch(0, 2), 95);
        Check.due("endsIn(0, 0)", z.endsIn(0, 0), NONE);
        Check.due("endsIn(0, 1)", z.endsIn(0, 1), 94);
    }

    // "if nothing else is done": what the others do counts, and wrecks that will be there
    static void promise21_theOthersCount() {
        // 0 sinks in the cell 4 in the fourth minute; 1 would have come there in the same one, and sinks in the cell 3.
        GutterBoats x = Check.loaded("Tg101000b100b330l00l10");
        Check.due("endsIn(0, 1)", x.endsIn(0, 1), 4);
        Check.due("endsIn(1, 1)", x.endsIn(1, 1), 22);
        Check.due("endsIn(1, 0)", x.endsIn(1, 0), NONE);
        GutterBoats y = Check.loaded("Tg101000b330b100l00l10");
        Check.due("endsIn(0, 0)", y.endsIn(0, 0), 10);
        Check.due("endsIn(0, 1)", y.endsIn(0, 1), NONE);
    }

    // ---- winner

    // "NONE if none does, or no heat is under way": no boats, no heat, and behind a heat
    static void promise22_noneWithoutAHeat() {
        Check.due("winner()", new GutterBoats().winner(), NONE);
        GutterBoats x = Check.loaded("Tg041000b330");
        Check.due("winner()", x.winner(), NONE);
        x.launch(0, 0);
        Check.due("winner()", x.winner(), 0);
        x.minutes(4);
        Check.due("winner() behind the heat", x.winner(), NONE);
    }

    // "NONE if none does": all sink
    static void promise22_noneIfAllSink() {
        GutterBoats x = Check.loaded("Tg051000b100b100l00l10");
        Check.due("winner()", x.winner(), NONE);
        GutterBoats y = Check.loaded("Tg041000b100b100l00l10");
        Check.due("winner()", y.winner(), 0);
    }

    // "Tells who wins the heat that is under way.": several boats that arrive in the same minute, and a lower number later
    static void promise22_theFirstToArrive() {
        for (int first = 0; first < 10; first++) {
            GutterBoats x = Check.loaded("Tg101000s19");
            for (int b = 0; b < 10; b++) {
                x.boat(3, 3, 0);
            }
            for (int b = first; b < 10; b++) {
                x.launch(b, 0);
            }
            x.minutes(1);
            for (int b = 0; b < first; b++) {
                x.launch(b, 0);
            }
            Check.due("winner()", x.winner(), first);
            Check.due("minutes(60)", x.minutes(60), 10);
            Check.due("wins", x.boatOf(first, 8), 1);
        }
    }

    // the same: one has arrived already, and has won before; or the others have
    static void promise22_whoHasArrivedAlready() {
        GutterBoats x = Check.loaded("Tg045000g400000b100b100b930l10m01l00m01l00l10l21m01");
        Check.due("heats won", x.about(10), 2);
        Check.due("place", x.boatOf(0, 7), 1);
        Check.due("place", x.boatOf(1, 7), 2);
        Check.due("winner()", x.winner(), 0);
        GutterBoats y = Check.loaded("Tg045000g400000b100b100b930l10m01l00m01l10l21m01l00m01");
        Check.due("place", y.boatOf(1, 7), 1);
        Check.due("place", y.boatOf(0, 7), 2);
        Check.due("winner()", y.winner(), 1);
        y.minutes(60);
        Check.due("wins", y.boatOf(1, 8), 2);
        Check.due("wins", y.boatOf(0, 8), 1);
    }

    // the longest heat that one boat makes: 94 minutes
    static void promise22_theLongestHeat() {
        GutterBoats x = Check.loaded("Tg045000g400000b930b100s19l01l10m01");
        Check.due("winner()", x.winner(), 1);
        GutterBoats y = Check.loaded("Tg403000g403000g403126s19b930l02");
        Check.due("winner()", y.winner(), 0);
    }

    // "these and all following methods up to the save slots change nothing"
    static void promise22_winnerChangesNothing() {
        for (Fresh.Maker maker : Fresh.ALL) {
            Fresh.changesNothing(maker, GutterBoats::winner);
        }
    }

    // ---- leastFolds

    // "Throws `IndexOutOfBoundsException` if there is no such gutter"
    static void promise23_gutters() {
        for (Fresh.Maker maker : Fresh.ALL) {
            int gutters = maker.made().about(0);
            for (int g : outside(gutters)) {
                Fresh.refused(maker, Check.NO_SUCH, x -> x.leastFolds(g, 0));
                Fresh.refused(maker, Check.NO_SUCH, x -> x.leastFolds(g, 3));
            }
            for (int g = 0; g < gutters; g++) {
                int gutter = g;
                Fresh.changesNothing(maker, x -> x.leastFolds(gutter, 0) + x.leastFolds(gutter, 3));
            }
        }
    }

    // "wax: 0 to 3"; "Throws `IllegalArgumentException` if wax is out of range"
    static void promise23_zeroToThreeOfWax() {
        for (int wax : outside(4)) {
            Fresh.refused(Fresh::rich, Check.RANGE, x -> x.leastFolds(0, wax));
            Fresh.refused(Fresh::full, Check.RANGE, x -> x.leastFolds(5, wax));
        }
        // 13 cells by 1 in a minute, 12 of them soak, less 4 for each wax, by 3 for a fold; four folds do not drift.
        int[] due = {NONE, 3, 2, 1};
        GutterBoats x = Check.loaded("Tg131000");
        for (int wax = 0; wax <= 3; wax++) {
            Check.due("leastFolds(0, " + wax + ")", x.leastFolds(0, wax), due[wax]);
        }
    }

    // "If several exceptions apply to a call, the one that its description names first is thrown."
    static void promise23_theGutterIsNamedFirst() {
        Fresh.refusedByAll(Check.NO_SUCH, x -> x.leastFolds(x.about(0), 4));
        Fresh.refusedByAll(Check.NO_SUCH, x -> x.leastFolds(-1, -1));
    }

    // "Returns the least folds, 1 to 9; NONE if there are none.": each of them
    static void promise23_oneToNineFoldsOrNone() {
        // By 5 cells in a minute, by 4 from four folds on, by 3 from eight on; n folds have n minutes, and one more.
        int[] cells = {10, 11, 15, 16, 20, 21, 24, 25, 28, 29, 32, 33, 40};
        int[] least = {1, 2, 2, 3, 3, 5, 5, 6, 6, 7, 7, NONE, NONE};
        for (int i = 0; i < cells.length; i++) {
            GutterBoats x = Check.loaded("Tg" + cells[i] + "5000s11");
            Check.due("leastFolds of " + cells[i] + " cells", x.leastFolds(0, 0), least[i]);
        }
        // By 8, 7 and 6 cells in a minute; one to three folds have one of them, four to seven have two, eight three.
        int[] rainyCells = {10, 14, 15, 18, 19};
        int[] rainyLeast = {4, 4, 8, 8, NONE};
        for (int i = 0; i < rainyCells.length; i++) {
            GutterBoats x = Check.loaded("Tg" + rainyCells[i] + "5000s11s03");
            Check.due("leastFolds of " + rainyCells[i] + " cells", x.leastFolds(0, 0), rainyLeast[i]);
        }
        // By as many cells, with n minutes for n folds, and one more: 56 for seven, 54 for eight, 60 for nine.
        int[] longCells = {16, 17, 20, 21};
        int[] longLeast = {7, 9, 9, NONE};
        for (int i = 0; i < longCells.length; i++) {
            GutterBoats x = Check.loaded("Tg405000g" + longCells[i] + "5000s14s03");
            Check.due("leastFolds of " + (40 + longCells[i]) + " cells", x.leastFolds(1, 0), longLeast[i]);
        }
    }

    /** The least folds, by one more boat that is really added, launched, and waited for. */
    private static int leastFoldsByTrying(Fresh.Maker maker, int g, int wax) {
        for (int folds = 1; folds <= 9; folds++) {
            GutterBoats x = maker.made();
            int b = x.boat(folds, wax, 0);
            x.launch(b, g);
            if (ends(x, b)[0] != NONE) {
                return folds;
            }
        }
        return NONE;
    }

    // "one more boat (with the next number ..), that is launched now": as if it were really added and launched
    static void promise23_asABoatThatIsReallyLaunched() {
        String[] texts = {"Tg101000", "Tg202000g101102g143005", "Tg101000b100l00m02", "Tg401000b330b100l00l10m03",
            "Tg203000g103002g201005s13b400b410b420b430b500b510b520b530b100l00l11l20l31l40l51l60l71m02s01"};
        for (String text : texts) {
            for (int rain = 0; rain <= 3; rain++) {
                int now = rain;
                Fresh.Maker maker = () -> {
                    GutterBoats x = Check.withText(text);
                    x.load();
                    x.set(0, now);
                    return x;
                };
                for (int g = 0; g < maker.made().about(0); g++) {
                    for (int wax = 0; wax <= 3; wax++) {
                        Check.due(text + ": leastFolds(" + g + ", " + wax + ") in the rain " + rain,
                                maker.made().leastFolds(g, wax), leastFoldsByTrying(maker, g, wax));
                    }
                }
            }
        }
    }

    // "(with the next number, also beyond 10)": of ten boats; all others come before it in a minute
    static void promise23_theNextNumberAlsoBeyondTen() {
        for (int boats = 1; boats <= 10; boats++) {
            GutterBoats x = Check.loaded("Tg101000");
            for (int b = 0; b < boats; b++) {
                x.boat(1, 0, 0);
            }
            Check.due("leastFolds beside dry boats", x.leastFolds(0, 0), 3);
            Check.due("leastFolds beside dry boats", x.leastFolds(0, 2), 1);
            // The last one sinks in the cell 4 as the tried one would come there.
            x.launch(boats - 1, 0);
            Check.due("leastFolds behind a boat that sinks", x.leastFolds(0, 0), NONE);
            Check.due("leastFolds behind a boat that sinks", x.leastFolds(0, 3), NONE);
            Check.due("boats", x.about(1), boats);
        }
    }

    // "launched now": into the cell 0, also if a wreck is there; one in the cell 1 holds it up for ever
    static void promise23_launchedNow() {
        GutterBoats beside = Check.loaded("Tg041000s11b400l00m05");
        Check.due("wreck's cell", beside.gutterOf(0, 6), 0);
        GutterBoats before = Check.loaded("Tg041000s11s01b400l00m01s00m03");
        Check.due("wreck's cell", before.gutterOf(0, 6), 1);
        before.hook(0, 0, 0);
        for (int rain = 0; rain <= 3; rain++) {
            beside.set(0, rain);
            before.set(0, rain);
            Check.due("leastFolds beside a wreck", beside.leastFolds(0, 3), 1);
            Check.due("leastFolds before a wreck", before.leastFolds(0, 3), NONE);
        }
        before.claim(0, 0);
        Check.due("leastFolds without it", before.leastFolds(0, 3), 1);
    }

    // "if nothing else is done": a heat that the tried boat would begin or join is none
    static void promise23_leavesTheHeatAsItIs() {
        GutterBoats x = Check.loaded("Tg041000b330");
        x.leastFolds(0, 0);
        Check.due("heats", x.about(8), 0);
        Check.due("winner()", x.winner(), NONE);
        x.launch(0, 0);
        x.leastFolds(0, 3);
        Check.due("heats", x.about(8), 1);
        Check.due("winner()", x.winner(), 0);
    }
}
