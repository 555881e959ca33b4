import java.util.ArrayDeque;
import java.util.ArrayList;
import java.util.List;
import java.util.regex.Matcher;
import java.util.regex.Pattern;

/**
 * The document told once more, by other means than the class (lists, a regular expression, copies, exceptions), so
 * that random runs of both can be compared. Its speed and its objects are free.
 */
final class PlainModel {
    private static final String[] COMMANDS = {
        "g(?<gl>0[4-9]|[123][0-9]|40)[0-5][0-5][0-3][0-9]", "b[1-9][0-3][0-3]", "l[0-9][0-5]", "m(?:0[1-9]|[1-5][0-9]|60)",
        "h[0-3][0-5][0-3][0-9]", "c[0-3][0-9]", "s[0-2][0-9]",
    };
    private static final Pattern TEXT =
            Pattern.compile("T(?:" + String.join("|", COMMANDS).replace("?<gl>", "?:") + ")*");

    private record Spot(Gutter gutter, int cell) {
    }

    private static final class Gutter {
        int number;
        int length;
        int current;
        Spot into;

        /** What comes behind a cell; null for the drain. */
        Spot behind(int cell) {
            return cell == length - 1 ? into : new Spot(this, cell + 1);
        }
    }

    private static final class Boat {
        int folds;
        int wax;
        int owner;
        String state = "dry";
        Spot spot;
        int soak;
        int place = -1;
        int wins;
        int drifted;
    }

    private static final class State {
        List<Gutter> gutters = new ArrayList<>();
        List<Boat> boats = new ArrayList<>();
        int[] points = new int[4];
        Spot[] hooks = new Spot[4];
        int[] settings = {0, 3, 2};
        int minutes;
        int heats;
        int won;
        int refused;
        int drifted;
        boolean underWay;

        State copy() {
            State s = new State();
            // Gutters never change, so that copies may share them.
            s.gutters.addAll(gutters);
            for (Boat b : boats) {
                Boat n = new Boat();
                n.folds = b.folds;
                n.wax = b.wax;
                n.owner = b.owner;
                n.state = b.state;
                n.spot = b.spot;
                n.soak = b.soak;
                n.place = b.place;
                n.wins = b.wins;
                n.drifted = b.drifted;
                s.boats.add(n);
            }
            s.points = points.clone();
            s.hooks = hooks.clone();
            s.settings = settings.clone();
            s.minutes = minutes;
            s.heats = heats;
            s.won = won;
            s.refused = refused;
            s.drifted = drifted;
            s.underWay = underWay;
            return s;
        }

        long count(String state) {
            return boats.stream().filter(b -> b.state.equals(state)).count();
        }

        boolean wreckAt(Spot spot) {
            return boats.stream().anyMatch(b -> b.state.equals("sunk") && b.spot.equals(spot));
        }
    }

    private final StringBuilder text = new StringBuilder();
    private final ArrayDeque<State> remembered = new ArrayDeque<>();
    private final State[] slots = new State[2];
    private State s = new State();

    private static void exists(boolean it) {
        if (!it) {
            throw new IndexOutOfBoundsException();
        }
    }

    private static void between(int value, int least, int greatest) {
        if (value < least || value > greatest) {
            throw new IllegalArgumentException();
        }
    }

    private static void now(boolean it) {
        if (!it) {
            throw new IllegalStateException();
        }
    }

    private Gutter gutterAt(int g) {
        exists(g >= 0 && g < s.gutters.size());
        return s.gutters.get(g);
    }

    private Spot spotAt(int g, int c) {
        exists(c >= 0 && c < gutterAt(g).length);
        return new Spot(gutterAt(g), c);
    }

    private Boat boatAt(int b) {
        exists(b >= 0 && b < s.boats.size());
        return s.boats.get(b);
    }

    private static int ownerAt(int o) {
        exists(o >= 0 && o <= 3);
        return o;
    }

    private void remember() {
        remembered.addLast(s.copy());
        if (remembered.size() > 14) {
            remembered.removeFirst();
        }
    }

    // ---- text

    int append(int c) {
        between(c, 0, 255);
        now(text.length() < 120);
        text.append((char) c);
        return text.length();
    }

    int clearText() {
        int before = text.length();
        text.setLength(0);
        return before;
    }

    /** The first character with which no tournament begins any more, whatever would follow. */
    int errorPosition() {
        for (int length = 1; length <= text.length(); length++) {
            Matcher matcher = TEXT.matcher(text.substring(0, length));
            if (!matcher.matches() && !matcher.hitEnd()) {
                return length - 1;
            }
        }
        return TEXT.matcher(text).matches() ? -1 : text.length();
    }

    int load() {
        now(errorPosition() == -1);
        s = new State();
        int leftOut = 0;
        Matcher matcher = Pattern.compile(String.join("|", COMMANDS)).matcher(text);
        while (matcher.find()) {
            try {
                leftOut += does(matcher.group()) ? 0 : 1;
            } catch (RuntimeException e) {
                leftOut++;
            }
        }
        s.refused = 0;
        remembered.clear();
        slots[0] = null;
        slots[1] = null;
        return leftOut;
    }

    private boolean does(String command) {
        int[] d = command.chars().map(c -> c - '0').toArray();
        switch (command.charAt(0)) {
            case 'g':
                gutter(10 * d[1] + d[2], d[3], d[4], 10 * d[5] + d[6]);
                return true;
            case 'b':
                boat(d[1], d[2], d[3]);
                return true;
            case 'l':
                launch(d[1], d[2]);
                return true;
            case 'm':
                minutes(10 * d[1] + d[2]);
                return true;
            case 'h':
                hook(d[1], d[2], 10 * d[3] + d[4]);
                return true;
            case 'c':
                return claim(d[1], d[2]) == 0;
            default:
                set(d[1], d[2]);
                return true;
        }
    }

    // ---- what there is

    int about(int what) {
        between(what, 0, 13);
        int[] numbers = {s.gutters.size(), s.boats.size(), (int) s.count("dry"), (int) s.count("afloat"),
            (int) s.count("arrived"), (int) s.count("sunk"), (int) s.count("claimed"), s.minutes, s.heats,
            s.underWay ? 1 : 0, s.won, s.refused, s.points[0] + s.points[1] + s.points[2] + s.points[3], s.drifted};
        return numbers[what];
    }

    int gutterOf(int g, int what) {
        Gutter gutter = gutterAt(g);
        between(what, 0, 6);
        int afloat = 0;
        int wrecks = 0;
        int lowest = -1;
        for (Boat b : s.boats) {
            if (b.spot == null || b.spot.gutter() != gutter) {
                continue;
            }
            if (b.state.equals("afloat")) {
                afloat++;
            } else {
                wrecks++;
                lowest = lowest == -1 || b.spot.cell() < lowest ? b.spot.cell() : lowest;
            }
        }
        int into = gutter.into == null ? -1 : gutter.into.gutter().number;
        int cell = gutter.into == null ? -1 : gutter.into.cell();
        return new int[] {gutter.length, gutter.current, into, cell, afloat, wrecks, lowest}[what];
    }

    int boatOf(int b, int what) {
        Boat boat = boatAt(b);
        between(what, 0, 10);
        int state = List.of("dry", "afloat", "arrived", "sunk", "claimed").indexOf(boat.state);
        int g = boat.spot == null ? -1 : boat.spot.gutter().number;
        int c = boat.spot == null ? -1 : boat.spot.cell();
        return new int[] {boat.folds, boat.wax, boat.owner, state, g, c, boat.soak, boat.place, boat.wins, boat.drifted,
            greatestSoak(boat)}[what];
    }

    private int greatestSoak(Boat boat) {
        return boat.folds * s.settings[1] + boat.wax * 4;
    }

    int ownerOf(int o, int what) {
        ownerAt(o);
        between(what, 0, 4);
        int boats = (int) s.boats.stream().filter(b -> b.owner == o).count();
        int g = s.hooks[o] == null ? -1 : s.hooks[o].gutter().number;
        int c = s.hooks[o] == null ? -1 : s.hooks[o].cell();
        return new int[] {s.points[o], boats, g, c, claimable(o)}[what];
    }

    private int claimable(int o) {
        int count = 0;
        for (int b = 0; b < s.boats.size(); b++) {
            count += why(o, b) == 0 ? 1 : 0;
        }
        return count;
    }

    int way(int g, int c, int way) {
        Spot spot = spotAt(g, c);
        between(way, 0, 1);
        int cells = 0;
        for (Spot at = spot; at != null; at = at.gutter().behind(at.cell())) {
            cells++;
        }
        return cells;
    }

    int setting(int what) {
        between(what, 0, 2);
        return s.settings[what];
    }

    // ---- actions

    int gutter(int length, int current, int into, int cell) {
        Spot spot = s.gutters.isEmpty() ? null : spotAt(into, cell);
        between(length, 4, 40);
        between(current, 0, 5);
        now(s.gutters.size() < 6);
        remember();
        Gutter gutter = new Gutter();
        gutter.number = s.gutters.size();
        gutter.length = length;
        gutter.current = current;
        gutter.into = spot;
        s.gutters.add(gutter);
        return gutter.number;
    }

    int boat(int folds, int wax, int owner) {
        ownerAt(owner);
        between(folds, 1, 9);
        between(wax, 0, 3);
        now(s.boats.size() < 10);
        remember();
        return newBoat(folds, wax, owner);
    }

    private int newBoat(int folds, int wax, int owner) {
        Boat boat = new Boat();
        boat.folds = folds;
        boat.wax = wax;
        boat.owner = owner;
        s.boats.add(boat);
        return s.boats.size() - 1;
    }

    int launch(int b, int g) {
        Boat boat = boatAt(b);
        gutterAt(g);
        now(boat.state.equals("dry"));
        remember();
        if (s.boats.stream().noneMatch(o -> o != boat && (o.state.equals("afloat") || o.state.equals("arrived")))) {
            s.heats++;
            s.underWay = true;
        }
        boat.state = "afloat";
        boat.spot = spotAt(g, 0);
        boat.soak = 0;
        return way(g, 0, 0);
    }

    int hook(int o, int g, int c) {
        ownerAt(o);
        Spot spot = spotAt(g, c);
        remember();
        s.hooks[o] = spot;
        return claimable(o);
    }

    int claim(int o, int b) {
        int reason = why(o, b);
        remember();
        if (reason == 0) {
            s.boats.get(b).state = "claimed";
            s.boats.get(b).spot = null;
            s.points[o] += s.boats.get(b).folds;
        } else {
            s.refused++;
        }
        return reason;
    }

    int minutes(int n) {
        between(n, 1, 60);
        remember();
        int arrivals = 0;
        for (int i = 0; i < n; i++) {
            arrivals += minute();
        }
        return arrivals;
    }

    private int minute() {
        s.minutes++;
        int arrivals = 0;
        for (Boat b : s.boats) {
            if (!b.state.equals("afloat")) {
                continue;
            }
            drift(b);
            if (b.spot == null) {
                arrivals++;
                b.place = 1 + (int) s.count("arrived");
                b.state = "arrived";
                continue;
            }
            b.soak += 1 + s.settings[0];
            if (b.soak > greatestSoak(b)) {
                b.state = "sunk";
            }
        }
        if (s.underWay && s.count("afloat") == 0) {
            heatIsOver();
        }
        return arrivals;
    }

    private void drift(Boat b) {
        int left = b.spot.gutter().current + s.settings[0] - b.folds / 4;
        while (left > 0 && b.spot != null) {
            Spot next = b.spot.gutter().behind(b.spot.cell());
            if (next != null && s.wreckAt(next)) {
                return;
            }
            b.spot = next;
            b.drifted++;
            s.drifted++;
            left--;
        }
    }

    private void heatIsOver() {
        s.underWay = false;
        for (Boat b : s.boats) {
            if (b.place == 1) {
                s.points[b.owner] += 3;
                b.wins++;
                s.won++;
            }
            if (b.state.equals("arrived")) {
                b.state = "dry";
                b.place = -1;
            }
        }
    }

    int set(int what, int v) {
        between(what, 0, 2);
        between(v, new int[] {0, 1, 0}[what], new int[] {3, 9, 9}[what]);
        remember();
        int before = s.settings[what];
        s.settings[what] = v;
        return before;
    }

    int undo() {
        now(!remembered.isEmpty());
        s = remembered.removeLast();
        return remembered.size();
    }

    // ---- what would be

    int why(int o, int b) {
        ownerAt(o);
        Boat boat = boatAt(b);
        if (!boat.state.equals("sunk")) {
            return 1;
        }
        Spot hook = s.hooks[o];
        if (hook == null || hook.gutter() != boat.spot.gutter()) {
            return 2;
        }
        int distance = Math.abs(hook.cell() - boat.spot.cell());
        if (distance > s.settings[2]) {
            return 2;
        }
        for (Spot other : s.hooks) {
            if (other != null && other.gutter() == hook.gutter()
                    && Math.abs(other.cell() - boat.spot.cell()) < distance) {
                return 3;
            }
        }
        return 0;
    }

    int endsIn(int b, int what) {
        boatAt(b);
        between(what, 0, 1);
        now(boatAt(b).state.equals("afloat"));
        State kept = s;
        s = s.copy();
        int n = 0;
        while (s.boats.get(b).state.equals("afloat")) {
            minute();
            n++;
        }
        boolean sank = s.boats.get(b).state.equals("sunk");
        s = kept;
        return sank == (what == 1) ? n : -1;
    }

    int winner() {
        State kept = s;
        s = s.copy();
        int winner = -1;
        while (s.underWay && winner == -1) {
            for (int b = 0; b < s.boats.size(); b++) {
                winner = s.boats.get(b).place == 1 ? b : winner;
            }
            int[] wins = s.boats.stream().mapToInt(b -> b.wins).toArray();
            minute();
            for (int b = 0; b < s.boats.size(); b++) {
                winner = s.boats.get(b).wins > wins[b] ? b : winner;
            }
        }
        s = kept;
        return winner;
    }

    int leastFolds(int g, int wax) {
        gutterAt(g);
        between(wax, 0, 3);
        State kept = s;
        int least = -1;
        for (int folds = 9; folds >= 1; folds--) {
            s = kept.copy();
            int b = newBoat(folds, wax, 3);
            s.boats.get(b).state = "afloat";
            s.boats.get(b).spot = new Spot(kept.gutters.get(g), 0);
            s.underWay = true;
            while (s.boats.get(b).state.equals("afloat")) {
                minute();
            }
            least = s.boats.get(b).state.equals("sunk") ? least : folds;
        }
        s = kept;
        return least;
    }

    // ---- scripts, simulations

    int runScript(int n, long script) {
        between(n, 1, 3);
        String digits = Long.toString(script);
        if (script < 0 || digits.length() > 5 * n) {
            throw new IllegalArgumentException();
        }
        digits = "0".repeat(5 * n - digits.length()) + digits;
        State kept = s;
        ArrayDeque<State> keptStates = remembered.clone();
        s = s.copy();
        int failed = -1;
        for (int i = 0; i < n && failed == -1; i++) {
            boolean good;
            try {
                good = succeeds(digits.substring(5 * i, 5 * i + 5));
            } catch (IndexOutOfBoundsException | IllegalArgumentException | IllegalStateException e) {
                good = false;
            }
            failed = good ? -1 : i;
        }
        putBack(kept, keptStates);
        return failed;
    }

    private void putBack(State kept, ArrayDeque<State> keptStates) {
        s = kept;
        remembered.clear();
        remembered.addAll(keptStates);
    }

    private boolean succeeds(String group) {
        int[] d = group.chars().map(c -> c - '0').toArray();
        int two = Integer.parseInt(group.substring(3));
        if (group.matches("1..00")) {
            launch(d[1], d[2]);
        } else if (group.matches("200..")) {
            minutes(two);
        } else if (group.matches("3....")) {
            hook(d[1], d[2], two);
        } else if (group.matches("4..00")) {
            return claim(d[1], d[2]) == 0;
        } else if (group.matches("5.00.")) {
            set(d[1], d[4]);
        } else if (group.matches("6...0")) {
            boat(d[1], d[2], d[3]);
        } else if (group.matches("7.00.")) {
            return boatOf(d[1], 3) == d[4];
        } else if (group.matches("8.0..")) {
            return ownerOf(d[1], 0) >= two;
        } else if (group.matches("9.0..")) {
            return boatOf(d[1], 6) <= two;
        } else {
            return false;
        }
        return true;
    }

    int simulate(long seed, int m) {
        between(m, 1, 60);
        State kept = s;
        ArrayDeque<State> keptStates = remembered.clone();
        s = s.copy();
        long x = seed;
        for (int i = 0; i < m; i++) {
            x = x * 6364136223846793005L + 1442695040888963407L;
            int r = (int) (x >>> 33);
            try {
                turn(r % 16, r / 16);
            } catch (IndexOutOfBoundsException | IllegalArgumentException | IllegalStateException e) {
                continue;
            }
        }
        int answer = 10000 * (s.heats - kept.heats) + 100 * (about(12) % 100) + about(5);
        putBack(kept, keptStates);
        return answer;
    }

    private void turn(int kind, int q) {
        switch (kind) {
            case 0 -> gutter(4 + q % 20, q / 32 % 6, q / 256 % 6, q / 2048 % 20);
            case 1, 2 -> boat(1 + q % 9, q / 16 % 4, q / 64 % 4);
            case 3, 4, 5, 6 -> launch(q % 10, q / 16 % 6);
            case 7 -> hook(q % 4, q / 4 % 6, q / 32 % 20);
            case 8, 9 -> claim(q % 4, q / 4 % 10);
            case 10 -> set(q % 3, q / 4 % 5);
            default -> minutes(1 + q % 4);
        }
    }

    // ---- save slots

    int save(int slot) {
        exists(slot == 0 || slot == 1);
        slots[slot] = s.copy();
        return s.minutes;
    }

    int restore(int slot) {
        exists(slot == 0 || slot == 1);
        now(slots[slot] != null);
        s = slots[slot].copy();
        remembered.clear();
        return s.minutes;
    }
}
