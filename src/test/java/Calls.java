/** Any call by its number, with arguments of which it takes those that it has, told as a text. */
final class Calls {
    static final int NUMBER = 26;

    private Calls() {
    }

    static String told(GutterBoats x, int call, int a, int b, int c, int d, long n) {
        try {
            return Integer.toString(answer(x, call, a, b, c, d, n));
        } catch (RuntimeException e) {
            return e.getClass().getSimpleName();
        }
    }

    static String told(PlainModel x, int call, int a, int b, int c, int d, long n) {
        try {
            return Integer.toString(answer(x, call, a, b, c, d, n));
        } catch (RuntimeException e) {
            return e.getClass().getSimpleName();
        }
    }

    private static int answer(GutterBoats x, int call, int a, int b, int c, int d, long n) {
        switch (call) {
            case 0: return x.append(a);
            case 1: return x.clearText();
            case 2: return x.errorPosition();
            case 3: return x.load();
            case 4: return x.about(a);
            case 5: return x.gutterOf(a, b);
            case 6: return x.boatOf(a, b);
            case 7: return x.ownerOf(a, b);
            case 8: return x.way(a, b, c);
            case 9: return x.setting(a);
            case 10: return x.gutter(a, b, c, d);
            case 11: return x.boat(a, b, c);
            case 12: return x.launch(a, b);
            case 13: return x.hook(a, b, c);
            case 14: return x.claim(a, b);
            case 15: return x.minutes(a);
            case 16: return x.set(a, b);
            case 17: return x.undo();
            case 18: return x.why(a, b);
            case 19: return x.endsIn(a, b);
            case 20: return x.winner();
            case 21: return x.leastFolds(a, b);
            case 22: return x.runScript(a, n);
            case 23: return x.simulate(n, a);
            case 24: return x.save(a);
            default: return x.restore(a);
        }
    }

    private static int answer(PlainModel x, int call, int a, int b, int c, int d, long n) {
        switch (call) {
            case 0: return x.append(a);
            case 1: return x.clearText();
            case 2: return x.errorPosition();
            case 3: return x.load();
            case 4: return x.about(a);
            case 5: return x.gutterOf(a, b);
            case 6: return x.boatOf(a, b);
            case 7: return x.ownerOf(a, b);
            case 8: return x.way(a, b, c);
            case 9: return x.setting(a);
            case 10: return x.gutter(a, b, c, d);
            case 11: return x.boat(a, b, c);
            case 12: return x.launch(a, b);
            case 13: return x.hook(a, b, c);
            case 14: return x.claim(a, b);
            case 15: return x.minutes(a);
            case 16: return x.set(a, b);
            case 17: return x.undo();
            case 18: return x.why(a, b);
            case 19: return x.endsIn(a, b);
            case 20: return x.winner();
            case 21: return x.leastFolds(a, b);
            case 22: return x.runScript(a, n);
            case 23: return x.simulate(n, a);
            case 24: return x.save(a);
            default: return x.restore(a);
        }
    }
}
