import java.util.Random;

/** Random runs of the class and of the PlainModel, call by call. */
final class ModelTest {
    private static final String LETTERS = "gblmhcs";
    private static final int[] DIGITS = {6, 3, 2, 2, 4, 2, 2};

    private ModelTest() {
    }

    static void promise01to27_asTheModel() {
        int[] throwing = new int[Calls.NUMBER];
        int[] answering = new int[Calls.NUMBER];
        for (int run = 0; run < 3000; run++) {
            Random random = new Random(run);
            GutterBoats x = new GutterBoats();
            PlainModel y = new PlainModel();
            StringBuilder told = new StringBuilder("run " + run + ":");
            if (random.nextBoolean()) {
                String text = text(random);
                for (int i = 0; i < text.length(); i++) {
                    x.append(text.charAt(i));
                    y.append(text.charAt(i));
                }
                same(x, y, new int[] {2, 0, 0, 0, 0}, 0, told);
                same(x, y, new int[] {3, 0, 0, 0, 0}, 0, told);
            }
            for (int i = 0; i < 150; i++) {
                int[] call = call(random);
                String answer = same(x, y, call, number(random, call), told);
                (answer.matches("-?\\d+") ? answering : throwing)[call[0]]++;
            }
        }
        for (int call = 0; call < Calls.NUMBER; call++) {
            if (answering[call] < 200) {
                throw new Check.Wrong("the call " + call + " answered " + answering[call] + " times only");
            }
        }
    }

    private static String same(GutterBoats x, PlainModel y, int[] call, long number, StringBuilder told) {
        String got = Calls.told(x, call[0], call[1], call[2], call[3], call[4], number);
        String due = Calls.told(y, call[0], call[1], call[2], call[3], call[4], number);
        told.append('\n').append(java.util.Arrays.toString(call)).append(number).append(" -> ").append(got);
        if (!got.equals(due)) {
            throw new Check.Wrong(told + ", due is " + due);
        }
        return got;
    }

    /** Mostly calls that can succeed; arguments one beside their range now and then. */
    private static int[] call(Random random) {
        int kind = random.nextInt(40);
        if (kind == 26 || kind == 27) {
            return new int[] {12, random.nextInt(10), random.nextInt(4), 0, 0};
        }
        if (kind == 28 || kind == 29) {
            return new int[] {15, 1 + random.nextInt(4), 0, 0, 0};
        }
        if (kind == 30) {
            return new int[] {16, 0, random.nextInt(4), 0, 0};
        }
        if (kind == 31 || kind == 32) {
            return new int[] {14, random.nextInt(4), random.nextInt(10), 0, 0};
        }
        if (kind == 33 || kind == 34) {
            return new int[] {13, random.nextInt(4), random.nextInt(3), random.nextInt(12), 0};
        }
        if (kind >= 35) {
            int g = random.nextInt(10);
            int[] counts = {10, 10, 7, 11, 5};
            int[] calls = {19, 4, 5, 6, 7};
            int question = kind - 35;
            return new int[] {calls[question], question == 1 ? random.nextInt(14) : g % (question == 4 ? 4 : 10),
                question == 0 ? random.nextInt(2) : random.nextInt(counts[question]), 0, 0};
        }
        if ((kind == 17 || kind == 25 || kind == 1) && random.nextBoolean()) {
            kind = 0;
        }
        if (kind == 3 && random.nextBoolean()) {
            kind = 12;
        }
        return arguments(random, kind);
    }

    private static int[] arguments(Random random, int kind) {
        switch (kind) {
            case 0:
                return new int[] {0, random.nextInt(5) == 0 ? random.nextInt(260) - 2 : "Tgblmhcs0123456789".charAt(random.nextInt(18)), 0, 0, 0};
            case 8:
                return new int[] {8, random.nextInt(4), random.nextInt(14) - 1, random.nextInt(4) - 1, 0};
            case 10:
                return new int[] {10, 3 + random.nextInt(random.nextBoolean() ? 10 : 40), random.nextInt(7) - random.nextInt(2),
                    random.nextInt(5) - 1, random.nextInt(random.nextBoolean() ? 5 : 20) - 1};
            case 11:
                return new int[] {11, random.nextInt(11), random.nextInt(5), random.nextInt(5), 0};
            case 15:
            case 23:
                return new int[] {kind, random.nextInt(63) - 1, 0, 0, 0};
            case 16:
                return new int[] {16, random.nextInt(4), random.nextInt(12) - 1, 0, 0};
            case 22:
                return new int[] {22, random.nextInt(10) == 0 ? random.nextInt(6) - 1 : 1 + random.nextInt(3), 0, 0, 0};
            case 24:
            case 25:
                return new int[] {kind, random.nextInt(8) == 0 ? random.nextInt(5) - 2 : random.nextInt(2), 0, 0, 0};
            default:
                return new int[] {kind, random.nextInt(12) - 1, random.nextInt(12) - 1, random.nextInt(12) - 1, 0};
        }
    }

    private static long number(Random random, int[] call) {
        if (call[0] != 22 || random.nextInt(10) == 0) {
            return random.nextLong() >> random.nextInt(64);
        }
        long number = 0;
        for (int i = 0; i < call[1]; i++) {
            number = number * 100000 + group(random);
        }
        return number;
    }

    private static int group(Random random) {
        int kind = random.nextInt(random.nextInt(5) == 0 ? 10 : 9) + 1;
        int d2 = random.nextInt(5);
        int d3 = random.nextInt(4);
        int two = random.nextInt(random.nextBoolean() ? 12 : 70);
        int odd = random.nextInt(8) == 0 ? random.nextInt(100) : 0;
        int[] groups = {0, 10000 + 1000 * d2 + 100 * d3 + odd, 20000 + two + 100 * odd, 30000 + 1000 * d2 + 100 * d3 + two,
            40000 + 1000 * d2 + 100 * d3 + odd, 50000 + 1000 * d3 + two % 10 + 10 * odd, 60000 + 1000 * d2 + 100 * d3 + 10 * (two % 5) + odd % 10,
            70000 + 1000 * d2 + two % 5 + 10 * odd, 80000 + 1000 * d2 + two % 20 + 100 * (odd % 10), 90000 + 1000 * d2 + two + 100 * (odd % 10)};
        return kind == 10 ? random.nextInt(100000) : groups[kind];
    }

    /** A tournament as a text, with the words of a real one; one in four has a fault. */
    static String text(Random random) {
        StringBuilder s = new StringBuilder("Tg");
        s.append(10 + random.nextInt(11)).append(1 + random.nextInt(3)).append("000");
        s.append("g").append(10 + random.nextInt(11)).append(random.nextInt(3)).append("003");
        s.append("g0").append(4 + random.nextInt(6)).append(random.nextInt(4)).append(random.nextInt(2)).append("01");
        for (int i = 0; i < 5; i++) {
            s.append('b').append(1 + random.nextInt(9)).append(random.nextInt(4)).append(random.nextInt(4));
        }
        int length = s.length() + random.nextInt(70);
        while (s.length() < length) {
            int kind = random.nextInt(7);
            s.append(LETTERS.charAt(kind));
            for (int i = 0; i < DIGITS[kind]; i++) {
                s.append((char) ('0' + (random.nextInt(3) == 0 ? random.nextInt(10) : random.nextInt(3))));
            }
        }
        s.setLength(Math.min(120, s.length()));
        // Numbers above may be beyond their range: most of these texts are cut before the error.
        if (random.nextInt(4) > 0) {
            int error = Check.withText(s.toString()).errorPosition();
            while (error != GutterBoats.NONE) {
                s.setLength(Math.max(1, Math.min(error, s.length() - 1)));
                error = Check.withText(s.toString()).errorPosition();
            }
        }
        return s.toString();
    }
}
