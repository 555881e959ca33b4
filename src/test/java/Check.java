/** What the tests ask of answers and of exceptions, and the objects that they begin with. */
final class Check {
    static final Class<?> NO_SUCH = IndexOutOfBoundsException.class;
    static final Class<?> RANGE = IllegalArgumentException.class;
    static final Class<?> NOT_NOW = IllegalStateException.class;

    static final class Wrong extends RuntimeException {
        private static final long serialVersionUID = 1L;

        Wrong(String message) {
            super(message);
        }
    }

    interface Call {
        int answer();
    }

    private Check() {
    }

    static void due(String what, long got, long want) {
        if (got != want) {
            throw new Wrong(what + " answered " + got + ", due is " + want);
        }
    }

    /** The very class is due: the machine's own exceptions are of classes below. */
    static void throwsIt(Class<?> want, Call call) {
        String got;
        try {
            got = "the answer " + call.answer();
        } catch (RuntimeException e) {
            if (e.getClass() == want) {
                return;
            }
            got = e.toString();
        }
        throw new Wrong(want.getSimpleName() + " is due, but came " + got);
    }

    static GutterBoats withText(String text) {
        GutterBoats x = new GutterBoats();
        write(x, text);
        return x;
    }

    static void write(GutterBoats x, String text) {
        for (int i = 0; i < text.length(); i++) {
            x.append(text.charAt(i));
        }
    }

    /** An object that has loaded a text, none of whose commands is left out. */
    static GutterBoats loaded(String text) {
        GutterBoats x = withText(text);
        due("errorPosition() of " + text, x.errorPosition(), GutterBoats.NONE);
        due("load() of " + text, x.load(), 0);
        return x;
    }

    /** Everything that can be asked of a state, in one line, to compare states by. */
    static String told(GutterBoats x) {
        StringBuilder s = new StringBuilder();
        for (int what = 0; what <= 13; what++) {
            s.append(x.about(what)).append(' ');
        }
        for (int what = 0; what <= 2; what++) {
            s.append(x.setting(what)).append(' ');
        }
        for (int g = 0; g < x.about(0); g++) {
            for (int what = 0; what <= 6; what++) {
                s.append(x.gutterOf(g, what)).append(' ');
            }
        }
        for (int b = 0; b < x.about(1); b++) {
            for (int what = 0; what <= 10; what++) {
                s.append(x.boatOf(b, what)).append(' ');
            }
        }
        for (int o = 0; o < 4; o++) {
            for (int what = 0; what <= 4; what++) {
                s.append(x.ownerOf(o, what)).append(' ');
            }
        }
        return s.toString();
    }

    /** The numbers of about(), in one line: enough to see that something has changed, with few of the 512 calls. */
    static String summary(GutterBoats x) {
        StringBuilder s = new StringBuilder();
        for (int what = 0; what <= 13; what++) {
            s.append(x.about(what)).append(' ');
        }
        return s.toString();
    }

    static void same(String what, String got, String want) {
        if (!got.equals(want)) {
            throw new Wrong(what + " told " + got + ", due is " + want);
        }
    }
}
