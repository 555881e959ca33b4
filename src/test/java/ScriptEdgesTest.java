import java.math.BigInteger;

/**
 * The promises 24 and 25, one test for each sentence, at its boundary, below and above it.
 * A comment ahead of a test is the sentence that it holds to.
 */
final class ScriptEdgesTest {
    private static final int NONE = GutterBoats.NONE;

    private ScriptEdgesTest() {
    }

    /** A wreck (0, in the cell 7), one that is afloat (1, soak 5), one that is dry (2), and the hook of 3 near the wreck. */
    private static GutterBoats board() {
        GutterBoats x = Check.loaded("Tg401000g042000b200b930b112l00m07h3005l11m05");
        int[] states = {3, 1, 0};
        for (int b = 0; b < 3; b++) {
            Check.due("state of " + b, x.boatOf(b, 3), states[b]);
        }
        return x;
    }

    /** Of all groups with the command, exactly those succeed that are listed. */
    private static void only(Fresh.Maker maker, int command, int[] groups) {
        GutterBoats x = maker.made();
        boolean[] due = new boolean[10000];
        for (int group : groups) {
            due[group - 10000 * command] = true;
        }
        for (int rest = 0; rest < 10000; rest++) {
            if (rest % 300 == 0) {
                // An object is used for at most 512 calls.
                x = maker.made();
            }
            int group = 10000 * command + rest;
            Check.due("runScript(1, " + group + ")", x.runScript(1, group), due[rest] ? NONE : 0);
        }
    }

    /** The groups from the first to the last, by a step. */
    private static int[] groups(int first, int last, int step) {
        int[] groups = new int[(last - first) / step + 1];
        for (int i = 0; i < groups.length; i++) {
            groups[i] = first + i * step;
        }
        return groups;
    }

    private static int[] and(int[]... parts) {
        int length = 0;
        for (int[] part : parts) {
            length += part.length;
        }
        int[] all = new int[length];
        int filled = 0;
        for (int[] part : parts) {
            System.arraycopy(part, 0, all, filled, part.length);
            filled += part.length;
        }
        return all;
    }

    // "so does any other group": without a command
    static void promise24_noCommandZero() {
        only(ScriptEdgesTest::board, 0, new int[] {});
        only(Fresh::full, 0, new int[] {});
    }

    // "1 b g 0 0: launch(b, g)."
    static void promise24_launch() {
        only(GutterBoats::new, 1, new int[] {});
        only(ScriptEdgesTest::board, 1, new int[] {12000, 12100});
        only(Fresh::full, 1, new int[] {});
        only(ScriptEdgesTest::tenDryBoatsAndSixGutters, 1, launches());
    }

    private static GutterBoats tenDryBoatsAndSixGutters() {
        GutterBoats x = new GutterBoats();
        for (int i = 0; i < 6; i++) {
            x.gutter(40, 0, 0, 0);
        }
        for (int i = 0; i < 10; i++) {
            x.boat(9, 3, i % 4);
        }
        return x;
    }

    private static int[] launches() {
        int[] all = {};
        for (int b = 0; b < 10; b++) {
            all = and(all, groups(10000 + 1000 * b, 10500 + 1000 * b, 100));
        }
        return all;
    }

    // "2 0 0 n n: minutes(nn).": 01 to 60
    static void promise24_minutes() {
        only(GutterBoats::new, 2, groups(20001, 20060, 1));
        only(ScriptEdgesTest::board, 2, groups(20001, 20060, 1));
    }

    // "3 o g c c: hook(o, g, cc)."
    static void promise24_hook() {
        only(GutterBoats::new, 3, new int[] {});
        int[] all = {};
        for (int o = 0; o < 4; o++) {
            all = and(all, groups(30000 + 1000 * o, 30039 + 1000 * o, 1), groups(30100 + 1000 * o, 30103 + 1000 * o, 1));
        }
        only(ScriptEdgesTest::board, 3, all);
    }

    // "4 o b 0 0: claim(o, b); succeeds if it is not refused."
    static void promise24_claim() {
        only(GutterBoats::new, 4, new int[] {});
        only(ScriptEdgesTest::board, 4, new int[] {43000});
        only(Fresh::rich, 4, new int[] {41300});
    }

    // "5 w 0 0 v: set(w, v)."
    static void promise24_set() {
        only(ScriptEdgesTest::board, 5, and(groups(50000, 50003, 1), groups(51001, 51009, 1), groups(52000, 52009, 1)));
    }

    // "6 f w o 0: boat(f, w, o)."
    static void promise24_boat() {
        int[] all = {};
        for (int folds = 1; folds <= 9; folds++) {
            for (int wax = 0; wax <= 3; wax++) {
                all = and(all, groups(60000 + 1000 * folds + 100 * wax, 60030 + 1000 * folds + 100 * wax, 10));
            }
        }
        only(GutterBoats::new, 6, all);
        only(Fresh::full, 6, new int[] {});
    }

    // "7 b 0 0 s: succeeds if the state of the boat b is s."
    static void promise24_state() {
        only(GutterBoats::new, 7, new int[] {});
        only(ScriptEdgesTest::board, 7, new int[] {70003, 71001, 72000});
        only(Fresh::rich, 7, new int[] {70002, 71001, 72001, 73003, 74004, 75000});
        only(Fresh::full, 7, groups(70001, 79001, 1000));
    }

    // "8 o 0 n n: succeeds if the owner o has at least nn points.": as many, fewer, and more
    static void promise24_points() {
        only(GutterBoats::new, 8, groups(80000, 83000, 1000));
        Fresh.Maker maker = () -> Check.loaded("Tg400000b900b400l00l10m28h1000h2001c10c11");
        Check.due("points of 1", maker.made().ownerOf(1, 0), 13);
        only(maker, 8, and(new int[] {80000, 82000, 83000}, groups(81000, 81013, 1)));
    }

    // the same: with 99 points, and with more than two digits can tell
    static void promise24_manyPoints() {
        for (int heats = 32; heats <= 34; heats++) {
            GutterBoats x = heats(heats);
            Check.due("at least 98", x.runScript(1, 82098), heats >= 33 ? NONE : 0);
            Check.due("at least 99", x.runScript(1, 82099), heats >= 33 ? NONE : 0);
            Check.due("at least 96", x.runScript(1, 82096), NONE);
        }
    }

    /** So many heats, all won by a boat of the owner 2; there is another boat of two folds in a gutter without a current. */
    private static GutterBoats heats(int number) {
        GutterBoats x = Check.loaded("Tg045000g400000b102b200");
        for (int i = 0; i < number; i++) {
            x.launch(0, 0);
            x.minutes(1);
        }
        Check.due("points", x.ownerOf(2, 0), 3 * number);
        return x;
    }

    // "9 b 0 n n: succeeds if the soak of the boat b is at most nn.": as much, less, and more
    static void promise24_soak() {
        only(GutterBoats::new, 9, new int[] {});
        only(ScriptEdgesTest::board, 9, and(groups(90007, 90099, 1), groups(91005, 91099, 1), groups(92000, 92099, 1)));
    }

    // "n: number of commands, 1 to 3"; "Throws `IllegalArgumentException` if n is out of range"
    static void promise24_oneToThreeCommands() {
        long[] scripts = {20001L, 2000120001L, 200012000120001L};
        for (int n = 1; n <= 3; n++) {
            Check.due("runScript", new GutterBoats().runScript(n, scripts[n - 1]), NONE);
        }
        for (int n : new int[] {0, 4, -1, Integer.MIN_VALUE, Integer.MAX_VALUE}) {
            for (long script : new long[] {0, 20001L, -1, Long.MAX_VALUE}) {
                Fresh.refusedByAll(Check.RANGE, x -> x.runScript(n, script));
            }
        }
    }

    // "a number of at most 5 * n digits (0 or more)"; "or if script is negative or has more than 5 * n digits"
    static void promise24_atMostFiveDigitsForEach() {
        long[] most = {99999L, 9999999999L, 999999999999999L};
        for (int i = 0; i < 3; i++) {
            int n = i + 1;
            long beyond = most[i] + 1;
            Fresh.changesNothing(Fresh::rich, x -> x.runScript(n, 0));
            Check.due("runScript(" + n + ", 0)", Fresh.rich().runScript(n, 0), 0);
            Check.due("runScript(" + n + ", " + most[i] + ")", Fresh.rich().runScript(n, most[i]), 0);
            for (long script : new long[] {-1, -20001, Long.MIN_VALUE, beyond, beyond + 20001, Long.MAX_VALUE}) {
                Fresh.refusedByAll(Check.RANGE, x -> x.runScript(n, script));
            }
        }
        Fresh.refusedByAll(Check.RANGE, x -> x.runScript(1, 2000120001L));
        Fresh.refusedByAll(Check.RANGE, x -> x.runScript(2, 200012000120001L));
        // As an int these would be 0, and 20001.
        Fresh.refusedByAll(Check.RANGE, x -> x.runScript(1, 1L << 32));
        Fresh.refusedByAll(Check.RANGE, x -> x.runScript(1, (1L << 32) + 20001));
    }

    // "the first command is the highest group of the number (with zeros before it, if it has fewer digits)"
    static void promise24_theFirstCommandIsTheHighestGroup() {
        GutterBoats x = board();
        Check.due("2", x.runScript(2, 1200072001L), NONE);
        Check.due("3", x.runScript(3, 120007200120001L), NONE);
        Check.due("the other way round", x.runScript(2, 7200112000L), 0);
        Check.due("zeros before it", x.runScript(2, 20001L), 0);
        Check.due("zeros before it", x.runScript(3, 2000120001L), 0);
        Check.due("zeros before it", x.runScript(3, 20001L), 0);
        Check.due("zeros behind it", x.runScript(2, 2000100000L), 1);
        Check.due("zeros behind it", x.runScript(3, 200012000100000L), 2);
        Check.due("a digit too few", x.runScript(1, 2001L), 0);
    }

    // "Returns the index, from 0, of the first command that fails; NONE if all succeed."
    static void promise24_theFirstCommandThatFails() {
        int good = 20001;
        int bad = 20000;
        int[] commands = {good, bad};
        for (int first = 0; first < 2; first++) {
            Check.due("of one", new GutterBoats().runScript(1, commands[first]), first == 1 ? 0 : NONE);
            for (int second = 0; second < 2; second++) {
                long two = commands[first] * 100000L + commands[second];
                Check.due("of two", new GutterBoats().runScript(2, two), first == 1 ? 0 : second == 1 ? 1 : NONE);
                for (int third = 0; third < 2; third++) {
                    long three = two * 100000L + commands[third];
                    int due = first == 1 ? 0 : second == 1 ? 1 : third == 1 ? 2 : NONE;
                    Check.due("of three", new GutterBoats().runScript(3, three), due);
                }
            }
        }
    }

    // "Runs a script on a copy of the state.": each command does in it what the call does, and nothing remains of it
    static void promise24_theCommandsDoWhatTheCallsDo() {
        // The first command, and a second one that succeeds only behind it.
        int[][] pairs = {{12000, 72001}, {12100, 72001}, {20035, 71003}, {30006, 40000}, {43000, 70004}, {43000, 83002},
            {61000, 73000}, {69330, 73000}, {61000, 93000}};
        for (int[] pair : pairs) {
            Check.due("the second one alone", board().runScript(1, pair[1]), 0);
            long script = pair[0] * 100000L + pair[1];
            Check.due("runScript(2, " + script + ")", board().runScript(2, script), NONE);
            Fresh.changesNothing(ScriptEdgesTest::board, x -> x.runScript(2, script));
        }
        Check.due("claimed only once", board().runScript(2, 4300043000L), 1);
        Check.due("launched only once", board().runScript(2, 1200012100L), 1);
        Check.due("too far by the new reach", board().runScript(2, 5200143000L), 1);
        Check.due("afloat with the greatest soak", board().runScript(2, 2003471001L), NONE);
        Check.due("not in a minute more", board().runScript(2, 2003571001L), 1);
        Check.due("the soak in the rain", board().runScript(3, 500032000191009L), NONE);
        Check.due("the soak in the rain", board().runScript(3, 500032000191008L), 2);
    }

    // "on a copy of the state": a script sees nothing of the one before, nor of other questions
    static void promise24_eachScriptBeginsWithTheState() {
        GutterBoats x = board();
        for (int i = 0; i < 3; i++) {
            Check.due("launches the dry boat", x.runScript(2, 1200072001L), NONE);
            Check.due("it is dry", x.runScript(1, 72000), NONE);
            x.leastFolds(0, 3);
            x.simulate(i, 60);
            x.endsIn(1, 0);
            x.winner();
            Check.due("there are three boats", x.runScript(1, 73000), 0);
        }
    }

    // ---- simulate

    // "m: number of turns, 1 to 60"; "Throws `IllegalArgumentException` if m is out of range"
    static void promise25_oneToSixtyTurns() {
        for (int m : new int[] {1, 2, 59, 60}) {
            Check.due("simulate(5, " + m + ")", Fresh.rich().simulate(5, m), byCalls(Fresh.rich(), BigInteger.valueOf(5), m));
        }
        for (int m : new int[] {0, 61, -1, Integer.MIN_VALUE, Integer.MAX_VALUE}) {
            for (long seed : new long[] {0, Long.MIN_VALUE, Long.MAX_VALUE}) {
                Fresh.refusedByAll(Check.RANGE, x -> x.simulate(seed, m));
            }
        }
    }

    /** The turns done by the calls themselves, with an x that has no overflow but is cut to 64 bits. */
    private static int byCalls(GutterBoats object, BigInteger seed, int m) {
        BigInteger all = BigInteger.ONE.shiftLeft(64);
        BigInteger x = seed.mod(all);
        int heats = object.about(8);
        for (int i = 0; i < m; i++) {
            x = x.multiply(new BigInteger("6364136223846793005")).add(new BigInteger("1442695040888963407")).mod(all);
            // The upper 31 of the 64 bits.
            int r = x.divide(BigInteger.ONE.shiftLeft(33)).intValueExact();
            try {
                turn(object, r % 16, r / 16);
            } catch (IndexOutOfBoundsException | IllegalArgumentException | IllegalStateException e) {
                continue;
            }
        }
        return 10000 * (object.about(8) - heats) + 100 * (object.about(12) % 100) + object.about(5);
    }

    private static int turn(GutterBoats x, int kind, int q) {
        switch (kind) {
            case 0: return x.gutter(4 + q % 20, q / 32 % 6, q / 256 % 6, q / 2048 % 20);
            case 1:
            case 2: return x.boat(1 + q % 9, q / 16 % 4, q / 64 % 4);
            case 3:
            case 4:
            case 5:
            case 6: return x.launch(q % 10, q / 16 % 6);
            case 7: return x.hook(q % 4, q / 4 % 6, q / 32 % 20);
            case 8:
            case 9: return x.claim(q % 4, q / 4 % 10);
            case 10: return x.set(q % 3, q / 4 % 5);
            default: return x.minutes(1 + q % 4);
        }
    }

    // "seed: any long"; "A long x starts as the seed .. (with long overflow)"
    static void promise25_anyLongWithOverflow() {
        long[] seeds = {0, 1, -1, 2, Long.MAX_VALUE, Long.MIN_VALUE, Long.MAX_VALUE - 1, Long.MIN_VALUE + 1, 1L << 32, -(1L << 32),
            1L << 33, (1L << 33) - 1, 6364136223846793005L, -6364136223846793005L, Integer.MAX_VALUE, Integer.MIN_VALUE};
        for (long seed : seeds) {
            for (Fresh.Maker maker : Fresh.ALL) {
                for (int m : new int[] {1, 7, 60}) {
                    Check.due("simulate(" + seed + ", " + m + ")", maker.made().simulate(seed, m),
                            byCalls(maker.made(), BigInteger.valueOf(seed), m));
                }
            }
        }
    }

    // the same, of many seeds: each kind of turn, also those that are left out
    static void promise25_manySeeds() {
        int[] more = {0, 0, 0};
        for (long i = 0; i < 1500; i++) {
            long seed = i * 0x9e3779b97f4a7c15L;
            Fresh.Maker maker = Fresh.ALL[(int) (i % 3)];
            int m = (int) (i % 60) + 1;
            int due = byCalls(maker.made(), BigInteger.valueOf(seed), m);
            Check.due("simulate(" + seed + ", " + m + ")", maker.made().simulate(seed, m), due);
            more[0] += due / 10000 > 1 ? 1 : 0;
            more[1] += due / 100 % 100 > 1 ? 1 : 0;
            more[2] += due % 100 > 1 ? 1 : 0;
        }
        for (int kind = 0; kind < 3; kind++) {
            Check.due("runs with more of the kind " + kind, more[kind] > 50 ? 1 : 0, 1);
        }
    }

    /** A seed with which the first turn has an r of these. */
    private static long seedFor(int r) {
        BigInteger all = BigInteger.ONE.shiftLeft(64);
        BigInteger x = BigInteger.valueOf(r).shiftLeft(33).subtract(new BigInteger("1442695040888963407"));
        return x.multiply(new BigInteger("6364136223846793005").modInverse(all)).mod(all).longValue();
    }

    // "By r % 16: ..": each turn by itself, with the least and the greatest numbers, told by what it makes of the answer
    static void promise25_eachTurnByItself() {
        for (int kind = 0; kind < 16; kind++) {
            for (int i = 0; i < 400; i++) {
                int q = i * 335_545 % (1 << 27);
                long seed = seedFor(16 * q + kind);
                GutterBoats twin = turnsBoard();
                Check.due("simulate of q = " + q, turnsBoard().simulate(seed, 1), byCalls(twin, BigInteger.valueOf(seed), 1));
            }
        }
    }

    /** A dry boat, a wreck near a hook, a boat that sinks in the next minute, and one that sinks in the fourth. */
    private static GutterBoats turnsBoard() {
        return Check.loaded("Tg041000g200000b100b100b400l11m04h0102b500b600l31l21m12");
    }

    // "What would throw an exception is left out.": turns of a new object in which nothing can be done yet
    static void promise25_whatWouldThrowIsLeftOut() {
        for (int kind = 3; kind <= 9; kind++) {
            for (int q = 0; q < 200; q++) {
                Check.due("simulate", new GutterBoats().simulate(seedFor(16 * q + kind), 1), 0);
            }
        }
        // set(0, 4) and set(1, 0) are left out; the second turn goes on.
        for (int q : new int[] {18, 1}) {
            Check.due("simulate", Fresh.rich().simulate(seedFor(16 * q + 10), 3),
                    byCalls(Fresh.rich(), BigInteger.valueOf(seedFor(16 * q + 10)), 3));
        }
    }

    // "10000 * (the heats begun in the turns)": those before are not counted
    static void promise25_theHeatsBegunInTheTurns() {
        // launch(0, 0) as the only turn: q % 10 is 0, and q / 16 % 6 is 0.
        long launches = seedFor(3);
        for (int heats = 0; heats <= 3; heats++) {
            GutterBoats x = heats(heats);
            Check.due("a heat begins", x.simulate(launches, 1) / 10000, 1);
            x.launch(0, 0);
            Check.due("none begins", x.simulate(launches, 1) / 10000, 0);
        }
    }

    // "100 * (the points of all owners together at the end, modulo 100)": 99, 100 and 101, and more
    static void promise25_thePointsModuloAHundred() {
        // minutes(1) as the only turn.
        long minute = seedFor(11);
        GutterBoats x = heats(33);
        Check.due("99 points", x.simulate(minute, 1), 9900);
        GutterBoats y = heats(32);
        y.launch(1, 1);
        y.minutes(7);
        y.hook(0, 1, 0);
        y.claim(0, 1);
        Check.due("98 points", y.about(12), 98);
        Check.due("98 points", y.simulate(minute, 1), 9800);
        y.launch(0, 0);
        Check.due("3 points more", y.simulate(minute, 1), 100);
        GutterBoats z = heats(33);
        z.boat(1, 0, 0);
        z.launch(2, 1);
        z.minutes(4);
        z.hook(0, 1, 0);
        z.claim(0, 2);
        Check.due("100 points", z.about(12), 100);
        Check.due("100 points", z.simulate(minute, 1), 0);
        Check.due("201 points", heats(67).simulate(minute, 1), 100);
    }

    // "(the boats that are sunk at the end)": none, and all ten
    static void promise25_theBoatsSunkAtTheEnd() {
        long minute = seedFor(11);
        for (int boats = 0; boats <= 10; boats++) {
            GutterBoats x = new GutterBoats();
            x.gutter(40, 0, 0, 0);
            for (int b = 0; b < boats; b++) {
                x.boat(1, 0, 0);
                x.launch(b, 0);
            }
            x.minutes(3);
            Check.due("sunk in the turn", x.simulate(minute, 1), boats);
            x.minutes(1);
            Check.due("sunk before", x.simulate(minute, 1), boats);
        }
    }

    // "Simulates m turns on a copy of the state."
    static void promise25_changesNothing() {
        for (Fresh.Maker maker : Fresh.ALL) {
            for (long seed = -2; seed <= 2; seed++) {
                long any = seed;
                Fresh.changesNothing(maker, x -> x.simulate(any, 60));
            }
        }
        GutterBoats x = Fresh.rich();
        Check.due("the same again", x.simulate(8, 60), x.simulate(8, 60));
    }
}
