/**
 * The same calls on fresh objects. What can be seen of an object only by spending it (its text, its remembered states,
 * its slots) is seen on one object for each look, so that all of it can be compared, and no object has over 512 calls.
 */
final class Fresh {
    interface Maker {
        GutterBoats made();
    }

    interface Use {
        int on(GutterBoats x);
    }

    /** With nothing, with something of each kind, and with as much as there can be. */
    static final Maker[] ALL = {GutterBoats::new, Fresh::rich, Fresh::full};

    private static final int MOST_UNDOS = 15;

    private Fresh() {
    }

    static Maker of(String text) {
        return () -> Check.loaded(text);
    }

    /** Throws this very exception, and changes nothing: no number, no text, no remembered state, no slot. */
    static void refused(Maker maker, Class<?> want, Use call) {
        String before = everything(maker, x -> 0);
        String behind = everything(maker, x -> {
            Check.throwsIt(want, () -> call.on(x));
            return 0;
        });
        Check.same("all behind the refused call", behind, before);
    }

    /** As refused, on objects with nothing, with something, and with all that there can be. */
    static void refusedByAll(Class<?> want, Use call) {
        for (Maker maker : ALL) {
            refused(maker, want, call);
        }
    }

    /** An answered call that changes nothing, and is no action. */
    static void changesNothing(Maker maker, Use call) {
        Check.same("all behind the question", everything(maker, call), everything(maker, x -> 0));
    }

    /** All that is there behind a use: the state, each remembered one, the slots, and the text. */
    static String everything(Maker maker, Use use) {
        StringBuilder s = new StringBuilder();
        s.append(look(maker, use, x -> 0));
        for (int undos = 1; undos <= MOST_UNDOS; undos++) {
            int number = undos;
            s.append("\nundos ").append(undos).append(": ").append(look(maker, use, x -> undone(x, number)));
        }
        s.append("\nslot 0: ").append(look(maker, use, x -> x.restore(0)));
        s.append("\nslot 1: ").append(look(maker, use, x -> x.restore(1)));
        s.append("\nerror: ").append(look(maker, use, GutterBoats::errorPosition));
        s.append("\nlength: ").append(look(maker, use, GutterBoats::clearText));
        s.append("\nloaded: ").append(look(maker, use, GutterBoats::load));
        return s.toString();
    }

    private static int undone(GutterBoats x, int undos) {
        int left = 0;
        for (int i = 0; i < undos; i++) {
            left = x.undo();
        }
        return left;
    }

    private static String look(Maker maker, Use use, Use look) {
        GutterBoats x = maker.made();
        use.on(x);
        String answer;
        try {
            answer = Integer.toString(look.on(x));
        } catch (RuntimeException e) {
            answer = e.getClass().getSimpleName();
        }
        return answer + " | " + Check.told(x);
    }

    /** A boat of each state, hooks, points, refusals, two slots, more actions than are remembered, and a text. */
    static GutterBoats rich() {
        GutterBoats x = Check.loaded("Tg045000g120002g061105b100b933b200b300b102b421");
        x.launch(3, 1);
        x.launch(4, 2);
        x.minutes(4);
        x.save(0);
        x.hook(1, 2, 3);
        x.hook(2, 2, 5);
        x.claim(2, 0);
        x.minutes(6);
        x.launch(1, 1);
        x.hook(3, 2, 4);
        x.claim(3, 4);
        x.launch(0, 0);
        x.minutes(1);
        x.set(0, 1);
        x.set(2, 3);
        x.hook(1, 1, 2);
        x.save(1);
        x.minutes(1);
        x.launch(2, 2);
        int[] states = {2, 1, 1, 3, 4, 0};
        for (int b = 0; b < states.length; b++) {
            Check.due("state of " + b, x.boatOf(b, 3), states[b]);
        }
        return x;
    }

    /** 6 gutters, 10 boats (all of them launched), 120 characters, 14 remembered states. */
    static GutterBoats full() {
        GutterBoats x = new GutterBoats();
        x.append('T');
        for (int i = 0; i < 39; i++) {
            Check.write(x, "m60");
        }
        Check.write(x, "l0");
        for (int g = 0; g < 6; g++) {
            x.gutter(40, g, g - 1, 39);
        }
        for (int b = 0; b < 10; b++) {
            x.boat(9, 3, b % 4);
        }
        x.save(0);
        for (int b = 0; b < 10; b++) {
            x.launch(b, b % 6);
        }
        x.save(1);
        for (int i = 0; i < 4; i++) {
            x.hook(i, i, 39);
            x.minutes(1);
        }
        Check.due("gutters", x.about(0), 6);
        Check.due("boats", x.about(1), 10);
        return x;
    }
}
