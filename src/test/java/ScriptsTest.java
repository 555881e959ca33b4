/** Promises 24 and 25: scripts and simulations. */
final class ScriptsTest {
    private static final int NONE = GutterBoats.NONE;

    private ScriptsTest() {
    }

    private static void script(GutterBoats x, int n, long script, int want) {
        String before = Check.summary(x);
        Check.due("runScript(" + n + ", " + script + ")", x.runScript(n, script), want);
        Check.same("the state", Check.summary(x), before);
    }

    private static void succeeds(GutterBoats x, long... groups) {
        for (long group : groups) {
            script(x, 1, group, NONE);
        }
    }

    private static void fails(GutterBoats x, long... groups) {
        for (long group : groups) {
            script(x, 1, group, 0);
        }
    }

    /** 0 is a wreck in the cell 7 with the hook of 3 near it, 1 is afloat, 2 is dry. */
    private static GutterBoats board() {
        GutterBoats x = Check.loaded("Tg401000g042000b200b930b112l00m07h3005l11m05");
        Check.due("state", x.boatOf(0, 3), 3);
        Check.due("cell", x.boatOf(0, 5), 7);
        Check.due("state", x.boatOf(1, 3), 1);
        return x;
    }

    static void promise24_launches() {
        GutterBoats x = Check.loaded("Tg401000g042000b200b930l11");
        succeeds(x, 10000, 10100);
        fails(x, 11000, 12000, 10200, 10900, 19000, 10010, 10001);
    }

    static void promise24_minutes() {
        GutterBoats x = board();
        succeeds(x, 20001, 20009, 20010, 20060);
        fails(x, 20000, 20061, 20099, 20101, 21001);
    }

    static void promise24_hooks() {
        GutterBoats x = board();
        succeeds(x, 30000, 33039, 30103);
        fails(x, 34000, 30200, 30040, 30104, 30099, 39000);
    }

    static void promise24_claims() {
        GutterBoats x = board();
        succeeds(x, 43000);
        fails(x, 40000, 43100, 43200, 44000, 43300, 43010, 43001, 49900);
        Check.due("refused", x.about(11), 0);
    }

    static void promise24_settings() {
        GutterBoats x = board();
        succeeds(x, 50000, 50003, 51001, 51009, 52000, 52009);
        fails(x, 50004, 51000, 53000, 50100, 50010, 59000);
    }

    static void promise24_boats() {
        GutterBoats x = board();
        succeeds(x, 61000, 69330, 61330);
        fails(x, 60000, 61400, 61040, 61001, 69990);
        for (int b = 3; b < 10; b++) {
            x.boat(1, 0, 0);
        }
        fails(x, 61000);
    }

    static void promise24_states() {
        GutterBoats x = board();
        succeeds(x, 70003, 71001, 72000);
        fails(x, 70000, 70001, 70002, 70004, 71000, 71003, 73000, 79000, 70103, 70013, 70009);
        x.boat(1, 0, 0);
        succeeds(x, 73000);
    }

    static void promise24_points() {
        GutterBoats x = Check.loaded("Tg042000b112l00m02");
        Check.due("points", x.ownerOf(2, 0), 3);
        succeeds(x, 82000, 82003, 80000, 83000);
        fails(x, 82004, 82010, 82099, 80001, 84000, 89000, 82103);
    }

    static void promise24_soaks() {
        GutterBoats x = board();
        Check.due("soak", x.boatOf(0, 6), 7);
        succeeds(x, 90007, 90008, 90099, 90010);
        fails(x, 90006, 90000, 93000, 93099, 90107);
    }

    static void promise24_otherGroupsFail() {
        GutterBoats x = board();
        fails(x, 0, 1, 3039, 9999);
        GutterBoats empty = new GutterBoats();
        fails(empty, 10000, 30000, 40000, 70000, 90000);
        succeeds(empty, 61000, 20001, 80000, 50001);
    }

    static void promise24_commandsFollowOneAnother() {
        GutterBoats x = Check.loaded("Tg042000b112");
        script(x, 3, 100002000282003L, NONE);
        script(x, 3, 100002000182003L, 2);
        script(x, 3, 100001000020002L, 1);
        script(x, 3, 110002000282003L, 0);
        script(x, 2, 1000020002L, NONE);
        script(x, 2, 20002L, 0);
        script(x, 3, 1000020002L, 0);
        script(x, 3, 613001100071001L, NONE);
        script(x, 3, 0, 0);
        script(x, 2, 1000000000L, 1);
        Check.due("boats", x.about(1), 1);
        Check.due("minutes", x.about(7), 0);
    }

    static void promise24_eachScriptBeginsWithTheState() {
        GutterBoats x = Check.loaded("Tg042000b112");
        script(x, 2, 1000070001L, NONE);
        script(x, 2, 1000070001L, NONE);
        x.leastFolds(0, 0);
        script(x, 1, 71000, 0);
        x.minutes(3);
        script(x, 1, 70000, NONE);
    }

    static void promise24_runScriptRefuses() {
        GutterBoats x = board();
        Check.throwsIt(Check.RANGE, () -> x.runScript(0, 0));
        Check.throwsIt(Check.RANGE, () -> x.runScript(4, 0));
        Check.throwsIt(Check.RANGE, () -> x.runScript(-1, 20001));
        Check.throwsIt(Check.RANGE, () -> x.runScript(Integer.MAX_VALUE, 20001));
        Check.throwsIt(Check.RANGE, () -> x.runScript(1, -1));
        Check.throwsIt(Check.RANGE, () -> x.runScript(1, -100000));
        Check.throwsIt(Check.RANGE, () -> x.runScript(1, 100000));
        Check.throwsIt(Check.RANGE, () -> x.runScript(2, 10000000000L));
        Check.throwsIt(Check.RANGE, () -> x.runScript(3, 1000000000000000L));
        Check.throwsIt(Check.RANGE, () -> x.runScript(3, Long.MAX_VALUE));
        Check.throwsIt(Check.RANGE, () -> x.runScript(3, Long.MIN_VALUE));
        Check.due("runScript(1, 99999)", x.runScript(1, 99999), 0);
        Check.due("runScript(2, 9999999999)", x.runScript(2, 9999999999L), 0);
        Check.due("runScript(3, 999999999999999)", x.runScript(3, 999999999999999L), 0);
        Check.throwsIt(Check.NOT_NOW, x::undo);
    }

    /** The turns of a simulation done by the actions of an object itself. */
    private static int byActions(GutterBoats x, long seed, int m) {
        int heats = x.about(8);
        long s = seed;
        for (int i = 0; i < m; i++) {
            s = s * 6364136223846793005L + 1442695040888963407L;
            int r = (int) (s >>> 33);
            try {
                turn(x, r % 16, r / 16);
            } catch (IndexOutOfBoundsException | IllegalArgumentException | IllegalStateException e) {
                continue;
            }
        }
        int points = 0;
        for (int o = 0; o < 4; o++) {
            points += x.ownerOf(o, 0);
        }
        return 10000 * (x.about(8) - heats) + 100 * (points % 100) + x.about(5);
    }

    private static void turn(GutterBoats x, int kind, int q) {
        if (kind == 0) {
            x.gutter(4 + q % 20, q / 32 % 6, q / 256 % 6, q / 2048 % 20);
        } else if (kind <= 2) {
            x.boat(1 + q % 9, q / 16 % 4, q / 64 % 4);
        } else if (kind <= 6) {
            x.launch(q % 10, q / 16 % 6);
        } else if (kind == 7) {
            x.hook(q % 4, q / 4 % 6, q / 32 % 20);
        } else if (kind <= 9) {
            x.claim(q % 4, q / 4 % 10);
        } else if (kind == 10) {
            x.set(q % 3, q / 4 % 5);
        } else {
            x.minutes(1 + q % 4);
        }
    }

    static void promise25_simulateDoesTheTurns() {
        String[] boards = {"T", "Tg102000b300b311l00l10",
            "Tg201000g102003g083104b200b311b122b133b230l01l11l20m03h0006h1003"};
        int others = 0;
        for (int seed = -40; seed < 40; seed++) {
            for (String board : boards) {
                for (int m : new int[] {1, 2, 7, 30, 60}) {
                    GutterBoats x = Check.withText(board);
                    GutterBoats y = Check.withText(board);
                    x.load();
                    y.load();
                    String before = Check.told(x);
                    long s = seed * 0x123456789abcdefL;
                    int due = byActions(y, s, m);
                    Check.due("simulate(" + s + ", " + m + ")", x.simulate(s, m), due);
                    Check.same("the state", Check.told(x), before);
                    others += due > 10000 ? 1 : 0;
                }
            }
        }
        if (others < 100) {
            throw new Check.Wrong("the simulations begin too few heats to tell anything");
        }
    }

    static void promise25_heatsBeforeDoNotCount() {
        GutterBoats x = Check.loaded("Tg102000b300l00m10l00m10l00");
        Check.due("heats", x.about(8), 3);
        int answer = x.simulate(5, 1);
        Check.due("heats begun in a turn", answer / 10000 <= 1 ? 0 : answer, 0);
        Check.due("points", answer / 100 % 100, 6);
    }

    static void promise25_anySeedAndEachTimeTheSame() {
        GutterBoats x = Check.loaded("Tg102000b300b311");
        for (long seed : new long[] {Long.MIN_VALUE, -1, 0, 1, Long.MAX_VALUE}) {
            Check.due("simulate(" + seed + ", 60) again", x.simulate(seed, 60), x.simulate(seed, 60));
        }
    }

    static void promise25_pointsAreTakenModuloAHundred() {
        GutterBoats x = Check.loaded("Tg045000b100");
        for (int i = 0; i < 34; i++) {
            x.launch(0, 0);
            x.minutes(1);
        }
        Check.due("points", x.about(12), 102);
        Check.due("simulate's points", x.simulate(0, 1) / 100 % 100, 2);
    }

    static void promise25_simulateRefuses() {
        GutterBoats x = new GutterBoats();
        Check.throwsIt(Check.RANGE, () -> x.simulate(0, 0));
        Check.throwsIt(Check.RANGE, () -> x.simulate(0, 61));
        Check.throwsIt(Check.RANGE, () -> x.simulate(0, -1));
        Check.throwsIt(Check.RANGE, () -> x.simulate(Long.MAX_VALUE, Integer.MAX_VALUE));
        x.simulate(0, 60);
        Check.throwsIt(Check.NOT_NOW, x::undo);
    }
}
