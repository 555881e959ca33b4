/**
 * The promises 6 to 11, one test for each sentence, at its boundary, below and above it.
 * A comment ahead of a test is the sentence that it holds to.
 */
final class QuestionEdgesTest {
    private static final int NONE = GutterBoats.NONE;
    private static final int[] BELOW_ZERO = {-1, -2, Integer.MIN_VALUE};

    private QuestionEdgesTest() {
    }

    /** What is below 0, the first number beyond, and others there. */
    private static int[] outside(int beyond) {
        return new int[] {BELOW_ZERO[0], BELOW_ZERO[1], BELOW_ZERO[2], beyond, beyond + 1, Integer.MAX_VALUE};
    }

    private static void changeNothing(Fresh.Use question) {
        for (Fresh.Maker maker : Fresh.ALL) {
            Fresh.changesNothing(maker, question);
        }
    }

    // ---- about

    // "Throws `IllegalArgumentException` if what is not 0 to 13"
    static void promise06_zeroToThirteen() {
        for (int what : outside(14)) {
            Fresh.refusedByAll(Check.RANGE, x -> x.about(what));
        }
        changeNothing(x -> {
            for (int what = 0; what <= 13; what++) {
                x.about(what);
            }
            return 0;
        });
    }

    // "0: the gutters; 1: the boats": none, and as many as there can be
    static void promise06_guttersAndBoats() {
        Check.due("gutters", new GutterBoats().about(0), 0);
        Check.due("boats", new GutterBoats().about(1), 0);
        Check.due("gutters", Fresh.full().about(0), 6);
        Check.due("boats", Fresh.full().about(1), 10);
        Check.due("gutters", Fresh.rich().about(0), 3);
        Check.due("boats", Fresh.rich().about(1), 6);
    }

    // "2 to 6: the boats with the state 0 to 4"
    static void promise06_boatsOfEachState() {
        int[] due = {1, 2, 1, 1, 1};
        for (int state = 0; state <= 4; state++) {
            Check.due("boats of the state " + state, Fresh.rich().about(2 + state), due[state]);
            Check.due("boats of the state " + state, new GutterBoats().about(2 + state), 0);
            Check.due("boats of the state " + state, Fresh.full().about(2 + state), state == 1 ? 10 : 0);
        }
    }

    // "2 to 6: the boats with the state 0 to 4": all ten in each of them
    static void promise06_allTenBoatsInEachState() {
        GutterBoats x = new GutterBoats();
        x.gutter(4, 5, 0, 0);
        x.gutter(4, 0, 0, 0);
        x.set(1, 1);
        for (int b = 0; b < 10; b++) {
            x.boat(1, 0, 0);
        }
        Check.due("dry", x.about(2), 10);
        for (int b = 0; b < 10; b++) {
            x.launch(b, b == 9 ? 1 : 0);
        }
        Check.due("afloat", x.about(3), 10);
        x.minutes(1);
        Check.due("arrived", x.about(4), 9);
        x.minutes(1);
        Check.due("dry", x.about(2), 9);
        Check.due("sunk", x.about(5), 1);
        for (int b = 0; b < 9; b++) {
            x.launch(b, 1);
        }
        x.minutes(2);
        Check.due("sunk", x.about(5), 10);
        x.hook(0, 1, 0);
        for (int b = 0; b < 10; b++) {
            x.claim(0, b);
        }
        Check.due("sunk", x.about(5), 0);
        Check.due("claimed", x.about(6), 10);
    }

    // "7: the minutes": those of refused calls are none
    static void promise06_theMinutes() {
        GutterBoats x = new GutterBoats();
        x.minutes(60);
        Check.throwsIt(Check.RANGE, () -> x.minutes(61));
        Check.due("minutes", x.about(7), 60);
    }

    // "8: the heats begun so far; 9: 1 if a heat is under way, otherwise 0; 10: heats that were won so far"
    static void promise06_theHeats() {
        GutterBoats x = Check.loaded("Tg041000b100b331");
        int[][] due = {{0, 0, 0}, {1, 1, 0}, {1, 1, 0}, {1, 0, 1}, {2, 1, 1}, {2, 0, 1}};
        for (int i = 0; i < due.length; i++) {
            for (int what = 0; what <= 2; what++) {
                Check.due("about(" + (8 + what) + ") at " + i, x.about(8 + what), due[i][what]);
            }
            switch (i) {
                case 0: x.launch(1, 0); break;
                case 1: x.minutes(3); break;
                case 2: x.minutes(1); break;
                case 3: x.set(1, 1); x.launch(0, 0); break;
                default: x.minutes(2); break;
            }
        }
    }

    // "11: how often claim() was refused so far": not why(), not scripts, not a text, not claims that throw
    static void promise06_refusedClaims() {
        GutterBoats x = Check.loaded("Tg400000b100l00m04h1002");
        Check.due("refused", x.about(11), 0);
        x.why(0, 0);
        x.runScript(1, 40000);
        x.simulate(3, 60);
        Check.throwsIt(Check.NO_SUCH, () -> x.claim(0, 1));
        Check.throwsIt(Check.NO_SUCH, () -> x.claim(4, 0));
        Check.due("refused", x.about(11), 0);
        x.claim(0, 0);
        Check.due("refused", x.about(11), 1);
        x.claim(1, 0);
        Check.due("refused", x.about(11), 1);
        x.claim(1, 0);
        Check.due("refused", x.about(11), 2);
    }

    // "12: the points of all owners together": of the first one to the last one
    static void promise06_pointsOfAllOwners() {
        GutterBoats x = Check.loaded("Tg400000b100b200b300b400l00l10l20l30m13h0000h1000h2000h3000");
        int points = 0;
        for (int b = 0; b < 4; b++) {
            x.claim(b, b);
            points += b + 1;
            Check.due("points of all", x.about(12), points);
            Check.due("points of one", x.ownerOf(b, 0), b + 1);
        }
    }

    // "13: cells drifted so far, by all boats": of the first one to the last one, and in all heats
    static void promise06_cellsDriftedByAllBoats() {
        GutterBoats x = Check.loaded("Tg043000b100b400b800l00l10l20");
        Check.due("cells", x.about(13), 0);
        x.minutes(1);
        Check.due("cells", x.about(13), 3 + 2 + 1);
        x.minutes(3);
        Check.due("cells", x.about(13), 4 + 4 + 4);
        x.launch(2, 0);
        x.minutes(1);
        Check.due("cells", x.about(13), 13);
        Check.due("cells of 2", x.boatOf(2, 9), 5);
    }

    // ---- gutterOf

    // "Throws `IndexOutOfBoundsException` if there is no such gutter"
    static void promise07_gutters() {
        for (Fresh.Maker maker : Fresh.ALL) {
            int gutters = maker.made().about(0);
            for (int g = 0; g < gutters; g++) {
                for (int what = 0; what <= 6; what++) {
                    maker.made().gutterOf(g, what);
                }
            }
            for (int g : outside(gutters)) {
                Fresh.refused(maker, Check.NO_SUCH, x -> x.gutterOf(g, 0));
                Fresh.refused(maker, Check.NO_SUCH, x -> x.gutterOf(g, 6));
            }
        }
    }

    // "Throws `IllegalArgumentException` if what is not 0 to 6"
    static void promise07_zeroToSix() {
        for (int what : outside(7)) {
            Fresh.refused(Fresh::rich, Check.RANGE, x -> x.gutterOf(0, what));
            Fresh.refused(Fresh::full, Check.RANGE, x -> x.gutterOf(5, what));
        }
        Fresh.changesNothing(Fresh::rich, x -> x.gutterOf(2, 0) + x.gutterOf(2, 6) + x.gutterOf(1, 5));
    }

    // "If several exceptions apply to a call, the one that its description names first is thrown."
    static void promise07_theGutterIsNamedFirst() {
        Fresh.refusedByAll(Check.NO_SUCH, x -> x.gutterOf(x.about(0), 7));
        Fresh.refusedByAll(Check.NO_SUCH, x -> x.gutterOf(-1, -1));
    }

    // "2: the gutter into which it flows; 3: the cell there (2 and 3: NONE for the gutter 0)"
    static void promise07_noneForTheGutterZero() {
        GutterBoats x = new GutterBoats();
        x.gutter(4, 0, 3, 3);
        x.gutter(5, 1, 0, 0);
        x.gutter(6, 2, 1, 4);
        int[][] due = {{4, 0, NONE, NONE}, {5, 1, 0, 0}, {6, 2, 1, 4}};
        for (int g = 0; g < 3; g++) {
            for (int what = 0; what <= 3; what++) {
                Check.due("gutterOf(" + g + ", " + what + ")", x.gutterOf(g, what), due[g][what]);
            }
        }
    }

    // "4: the boats afloat in it; 5: the wrecks in it": none and all ten, and none in the others
    static void promise07_boatsAfloatAndWrecks() {
        GutterBoats x = new GutterBoats();
        for (int g = 0; g < 3; g++) {
            x.gutter(10, 0, 0, 0);
        }
        for (int b = 0; b < 10; b++) {
            Check.due("afloat", x.gutterOf(1, 4), b);
            x.boat(1, 0, 0);
            x.launch(b, 1);
        }
        for (int g = 0; g < 3; g++) {
            Check.due("afloat in " + g, x.gutterOf(g, 4), g == 1 ? 10 : 0);
            Check.due("wrecks in " + g, x.gutterOf(g, 5), 0);
        }
        x.minutes(4);
        for (int g = 0; g < 3; g++) {
            Check.due("afloat in " + g, x.gutterOf(g, 4), 0);
            Check.due("wrecks in " + g, x.gutterOf(g, 5), g == 1 ? 10 : 0);
        }
        x.hook(0, 1, 0);
        for (int b = 0; b < 10; b++) {
            x.claim(0, b);
            Check.due("wrecks", x.gutterOf(1, 5), 9 - b);
        }
    }

    // "6: its lowest cell with a wreck, NONE without one": in the first cell, and in the last one
    static void promise07_theLowestCellWithAWreck() {
        GutterBoats x = Check.loaded("Tg041000s11b200b100b400l00m03");
        Check.due("wreck in the last cell", x.gutterOf(0, 6), 3);
        x.launch(1, 0);
        Check.due("a boat that is afloat", x.gutterOf(0, 6), 3);
        x.minutes(2);
        Check.due("wreck in the cell 2", x.gutterOf(0, 6), 2);
        x.launch(2, 0);
        x.minutes(5);
        Check.due("wreck in the cell 0", x.gutterOf(0, 6), 0);
        x.hook(0, 0, 1);
        x.claim(0, 2);
        Check.due("without that", x.gutterOf(0, 6), 2);
        x.claim(0, 1);
        Check.due("without that", x.gutterOf(0, 6), 3);
        x.claim(0, 0);
        Check.due("without any", x.gutterOf(0, 6), NONE);
    }

    // ---- boatOf

    // "Throws `IndexOutOfBoundsException` if there is no such boat"
    static void promise08_boats() {
        for (Fresh.Maker maker : Fresh.ALL) {
            int boats = maker.made().about(1);
            for (int b = 0; b < boats; b++) {
                for (int what = 0; what <= 10; what++) {
                    maker.made().boatOf(b, what);
                }
            }
            for (int b : outside(boats)) {
                Fresh.refused(maker, Check.NO_SUCH, x -> x.boatOf(b, 0));
                Fresh.refused(maker, Check.NO_SUCH, x -> x.boatOf(b, 10));
            }
        }
    }

    // "Throws `IllegalArgumentException` if what is not 0 to 10"
    static void promise08_zeroToTen() {
        for (int what : outside(11)) {
            Fresh.refused(Fresh::rich, Check.RANGE, x -> x.boatOf(0, what));
            Fresh.refused(Fresh::full, Check.RANGE, x -> x.boatOf(9, what));
        }
        Fresh.changesNothing(Fresh::rich, x -> x.boatOf(0, 0) + x.boatOf(5, 10) + x.boatOf(2, 6));
    }

    // "If several exceptions apply to a call, the one that its description names first is thrown."
    static void promise08_theBoatIsNamedFirst() {
        Fresh.refusedByAll(Check.NO_SUCH, x -> x.boatOf(x.about(1), 11));
        Fresh.refusedByAll(Check.NO_SUCH, x -> x.boatOf(-1, -1));
    }

    // "(4 and 5: NONE unless it is afloat or sunk)"
    static void promise08_gutterAndCellOfEachState() {
        GutterBoats x = Fresh.rich();
        int[] states = {2, 1, 1, 3, 4, 0};
        for (int b = 0; b < 6; b++) {
            boolean somewhere = states[b] == 1 || states[b] == 3;
            Check.due("has a gutter", x.boatOf(b, 4) == NONE ? 0 : 1, somewhere ? 1 : 0);
            Check.due("has a cell", x.boatOf(b, 5) == NONE ? 0 : 1, somewhere ? 1 : 0);
        }
    }

    // "6: its soak (it stays as it was until the next launch)": arrived, dry again, sunk, and claimed
    static void promise08_theSoakStaysUntilTheNextLaunch() {
        GutterBoats x = Check.loaded("Tg041000g400000b330b100l00l11m04");
        Check.due("sunk", x.boatOf(1, 6), 4);
        Check.due("dry again", x.boatOf(0, 6), 3);
        x.hook(0, 1, 0);
        x.claim(0, 1);
        x.minutes(9);
        Check.due("claimed", x.boatOf(1, 6), 4);
        Check.due("dry again", x.boatOf(0, 6), 3);
        x.boat(9, 3, 0);
        x.launch(2, 1);
        x.launch(0, 0);
        Check.due("launched", x.boatOf(0, 6), 0);
        x.minutes(6);
        Check.due("state", x.boatOf(0, 3), 2);
        Check.due("arrived", x.boatOf(0, 6), 3);
    }

    // "7: its place in the heat, NONE unless it has arrived"
    static void promise08_noPlaceUnlessArrived() {
        GutterBoats x = Fresh.rich();
        for (int b = 0; b < 6; b++) {
            Check.due("place of " + b, x.boatOf(b, 7), b == 0 ? 1 : NONE);
        }
    }

    // "8: the heats that it won so far"
    static void promise08_heatsWon() {
        GutterBoats x = Check.loaded("Tg045000b100b100");
        for (int heat = 0; heat < 5; heat++) {
            Check.due("won by 0", x.boatOf(0, 8), heat);
            Check.due("won by 1", x.boatOf(1, 8), 0);
            x.launch(0, 0);
            x.launch(1, 0);
            Check.due("won while under way", x.boatOf(0, 8), heat);
            x.minutes(1);
        }
    }

    // "9: cells that it drifted so far (the last one, into the drain, too)"
    static void promise08_cellsDriftedIntoTheDrainToo() {
        GutterBoats x = Check.loaded("Tg041000b330l00m03");
        Check.due("to the last cell", x.boatOf(0, 9), 3);
        x.minutes(1);
        Check.due("into the drain", x.boatOf(0, 9), 4);
        x.launch(0, 0);
        Check.due("launched again", x.boatOf(0, 9), 4);
        x.minutes(60);
        Check.due("into the drain again", x.boatOf(0, 9), 8);
    }

    // "10: the greatest soak with which it does not sink": the least and the greatest that there can be
    static void promise08_theGreatestSoak() {
        GutterBoats x = Check.loaded("Tb100b930b421");
        int[][] due = {{1, 21, 12}, {2, 30, 16}, {3, 39, 20}, {4, 48, 24}, {5, 57, 28}, {6, 66, 32}, {7, 75, 36}, {8, 84, 40},
            {9, 93, 44}};
        for (int forAFold = 1; forAFold <= 9; forAFold++) {
            x.set(1, forAFold);
            for (int b = 0; b < 3; b++) {
                Check.due("greatest soak of " + b, x.boatOf(b, 10), due[forAFold - 1][b]);
            }
        }
    }

    // ---- ownerOf

    // "Throws `IndexOutOfBoundsException` if there is no such owner" ("owner, 0 to 3")
    static void promise09_ownersZeroToThree() {
        for (int o : outside(4)) {
            Fresh.refusedByAll(Check.NO_SUCH, x -> x.ownerOf(o, 0));
            Fresh.refusedByAll(Check.NO_SUCH, x -> x.ownerOf(o, 4));
        }
        changeNothing(x -> {
            for (int o = 0; o <= 3; o++) {
                for (int what = 0; what <= 4; what++) {
                    x.ownerOf(o, what);
                }
            }
            return 0;
        });
    }

    // "Throws `IllegalArgumentException` if what is not 0 to 4"
    static void promise09_zeroToFour() {
        for (int what : outside(5)) {
            Fresh.refusedByAll(Check.RANGE, x -> x.ownerOf(0, what));
            Fresh.refusedByAll(Check.RANGE, x -> x.ownerOf(3, what));
        }
    }

    // "If several exceptions apply to a call, the one that its description names first is thrown."
    static void promise09_theOwnerIsNamedFirst() {
        Fresh.refusedByAll(Check.NO_SUCH, x -> x.ownerOf(4, 5));
        Fresh.refusedByAll(Check.NO_SUCH, x -> x.ownerOf(-1, -1));
    }

    // "1: the boats": none and all ten, also those that are claimed
    static void promise09_boatsOfAnOwner() {
        GutterBoats x = Check.loaded("Tg400000b102l00m04h0000c00");
        Check.due("boats of 2", x.ownerOf(2, 1), 1);
        Check.due("boats of 0", x.ownerOf(0, 1), 0);
        for (int b = 1; b < 10; b++) {
            x.boat(1, 0, 2);
            Check.due("boats of 2", x.ownerOf(2, 1), b + 1);
        }
        Check.due("boats of 3", x.ownerOf(3, 1), 0);
    }

    // "2 and 3: the gutter and the cell of the hook, NONE if it is nowhere"
    static void promise09_theHook() {
        GutterBoats x = Check.loaded("Tg100000g400000");
        for (int o = 0; o <= 3; o++) {
            Check.due("gutter", x.ownerOf(o, 2), NONE);
            Check.due("cell", x.ownerOf(o, 3), NONE);
            x.hook(o, 0, 0);
            Check.due("gutter", x.ownerOf(o, 2), 0);
            Check.due("cell", x.ownerOf(o, 3), 0);
            x.hook(o, 1, 39);
            Check.due("gutter", x.ownerOf(o, 2), 1);
            Check.due("cell", x.ownerOf(o, 3), 39);
        }
    }

    // "4: the wrecks that could be claimed now": none and all ten, by the one who is nearest
    static void promise09_wrecksThatCouldBeClaimedNow() {
        GutterBoats x = new GutterBoats();
        x.gutter(10, 0, 0, 0);
        for (int b = 0; b < 10; b++) {
            x.boat(1, 0, 0);
            x.launch(b, 0);
        }
        x.hook(0, 0, 2);
        Check.due("none is sunk", x.ownerOf(0, 4), 0);
        x.minutes(4);
        Check.due("all are in reach", x.ownerOf(0, 4), 10);
        Check.due("without a hook", x.ownerOf(3, 4), 0);
        x.hook(3, 0, 2);
        Check.due("as near", x.ownerOf(0, 4), 10);
        Check.due("as near", x.ownerOf(3, 4), 10);
        x.hook(3, 0, 1);
        Check.due("the other one is nearer", x.ownerOf(0, 4), 0);
        Check.due("nearer", x.ownerOf(3, 4), 10);
        for (int b = 0; b < 10; b++) {
            x.claim(3, b);
            Check.due("those that are left", x.ownerOf(3, 4), 9 - b);
        }
    }

    // ---- way

    // "Throws `IndexOutOfBoundsException` if there is no such gutter or cell"
    static void promise10_guttersAndCells() {
        for (Fresh.Maker maker : Fresh.ALL) {
            int gutters = maker.made().about(0);
            for (int g : outside(gutters)) {
                Fresh.refused(maker, Check.NO_SUCH, x -> x.way(g, 0, 0));
                Fresh.refused(maker, Check.NO_SUCH, x -> x.way(g, 0, 1));
            }
            for (int g = 0; g < gutters; g++) {
                int gutter = g;
                int length = maker.made().gutterOf(g, 0);
                for (int c : outside(length)) {
                    Fresh.refused(maker, Check.NO_SUCH, x -> x.way(gutter, c, 0));
                    Fresh.refused(maker, Check.NO_SUCH, x -> x.way(gutter, c, 1));
                }
                Fresh.changesNothing(maker, x -> x.way(gutter, 0, 0) + x.way(gutter, length - 1, 1));
            }
        }
    }

    // "Throws `IllegalArgumentException` if way is neither 0 nor 1"
    static void promise10_zeroOrOne() {
        for (int way : outside(2)) {
            Fresh.refused(Fresh::rich, Check.RANGE, x -> x.way(0, 3, way));
            Fresh.refused(Fresh::full, Check.RANGE, x -> x.way(5, 39, way));
        }
    }

    // "If several exceptions apply to a call, the one that its description names first is thrown."
    static void promise10_theGutterAndTheCellAreNamedFirst() {
        Fresh.refusedByAll(Check.NO_SUCH, x -> x.way(x.about(0), 0, 2));
        Fresh.refused(Fresh::rich, Check.NO_SUCH, x -> x.way(0, 4, 2));
        Fresh.refused(Fresh::rich, Check.NO_SUCH, x -> x.way(0, -1, -1));
    }

    // "Returns the way (the same for both ways)."
    static void promise10_theSameForBothWays() {
        for (Fresh.Maker maker : Fresh.ALL) {
            int gutters = maker.made().about(0);
            for (int g = 0; g < gutters; g++) {
                GutterBoats x = maker.made();
                for (int c = 0; c < x.gutterOf(g, 0); c++) {
                    Check.due("way(" + g + ", " + c + ")", x.way(g, c, 1), x.way(g, c, 0));
                }
            }
        }
    }

    // the way is that of a boat: as many cells as a boat drifts that is launched there
    static void promise10_theCellsThatABoatHasToGo() {
        for (int g = 0; g < 3; g++) {
            GutterBoats x = Check.loaded("Tg101000g041009g121102s19b930s03");
            Check.due("launch", x.launch(0, g), x.way(g, 0, 0));
            Check.due("minutes(60)", x.minutes(60), 1);
            Check.due("drifted", x.boatOf(0, 9), x.way(g, 0, 1));
        }
    }

    // ---- setting

    // "what: 0 to 2"; "Throws `IllegalArgumentException` if what is out of range"
    static void promise11_zeroToTwo() {
        for (int what : outside(3)) {
            Fresh.refusedByAll(Check.RANGE, x -> x.setting(what));
        }
        int[] due = {1, 3, 3};
        for (int what = 0; what <= 2; what++) {
            Check.due("setting(" + what + ")", Fresh.rich().setting(what), due[what]);
        }
        changeNothing(x -> x.setting(0) + x.setting(1) + x.setting(2));
    }
}
