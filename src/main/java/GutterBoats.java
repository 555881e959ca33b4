/** A tournament of paper boats in gutters; ../shared/DOC.md says what each call does. */
public final class GutterBoats {
    public static final int NONE = -1;

    private static final int GUTTER_LIMIT = 6;
    private static final int BOAT_LIMIT = 10;
    private static final int OWNERS = 4;
    private static final int TEXT_LIMIT = 120;
    private static final int REMEMBERED_LIMIT = 14;
    private static final int SLOTS = 2;
    private static final int MOST_MINUTES = 60;
    private static final int MOST_FOLDS = 9;
    private static final int MOST_WAX = 3;
    private static final int MOST_TURNS = 60;
    private static final int MOST_COMMANDS = 3;
    private static final long GROUP = 100000L;

    // More cells than all gutters have, and more minutes than any boat stays afloat.
    private static final int WAY_BOUND = 1000;
    private static final int VOYAGE_BOUND = 1000;

    private static final int FINE = 0;
    private static final int NO_SUCH = 1;
    private static final int OUT_OF_RANGE = 2;
    private static final int NOT_NOW = 3;

    // The columns bear the numbers by which gutterOf and boatOf ask for them.
    private static final int LENGTH = 0;
    private static final int CURRENT = 1;
    private static final int INTO = 2;
    private static final int INTO_CELL = 3;
    private static final int GUTTER_COLUMNS = 4;

    private static final int FOLDS = 0;
    private static final int WAX = 1;
    private static final int OWNER = 2;
    private static final int STATE = 3;
    private static final int GUTTER = 4;
    private static final int CELL = 5;
    private static final int SOAK = 6;
    private static final int PLACE = 7;
    private static final int WINS = 8;
    private static final int DRIFTED = 9;
    private static final int BOAT_COLUMNS = 10;

    private static final int POINTS = 0;
    private static final int HOOK_GUTTER = 1;
    private static final int HOOK_CELL = 2;
    private static final int OWNER_COLUMNS = 3;

    private static final int DRY = 0;
    private static final int AFLOAT = 1;
    private static final int ARRIVED = 2;
    private static final int SUNK = 3;
    private static final int CLAIMED = 4;

    private static final int RAIN = 0;
    private static final int MINUTES_FOR_A_FOLD = 1;
    private static final int REACH = 2;

    // The numbers behind a letter of the text: the unit of the first digit, the least, the greatest.
    private static final int[] GUTTER_NUMBERS = {10, 4, 40, 1, 0, 5, 1, 0, 5, 10, 0, 39};
    private static final int[] BOAT_NUMBERS = {1, 1, 9, 1, 0, 3, 1, 0, 3};
    private static final int[] LAUNCH_NUMBERS = {1, 0, 9, 1, 0, 5};
    private static final int[] MINUTES_NUMBERS = {10, 1, 60};
    private static final int[] HOOK_NUMBERS = {1, 0, 3, 1, 0, 5, 10, 0, 39};
    private static final int[] CLAIM_NUMBERS = {1, 0, 3, 1, 0, 9};
    private static final int[] SET_NUMBERS = {1, 0, 2, 1, 0, 9};
    private static final int[] NO_NUMBERS = {};

    private final Text text;
    private final Tournament now;
    private final Tournament copy;
    private final History history;
    private final Shelf slots;

    public GutterBoats() {
        text = new Text();
        now = new Tournament();
        copy = new Tournament();
        history = new History();
        slots = new Shelf(SLOTS);
    }

    // ---- text

    public int append(int c) throws IllegalArgumentException, IllegalStateException {
        throwFor(c < 0 || c > 255 ? OUT_OF_RANGE : FINE);
        throwFor(text.isFull() ? NOT_NOW : FINE);
        return text.add(c);
    }

    public int clearText() {
        return text.makeEmpty();
    }

    public int errorPosition() {
        return text.firstError();
    }

    public int load() throws IllegalStateException {
        throwFor(text.firstError() != NONE ? NOT_NOW : FINE);
        now.makeNew();
        history.forget();
        slots.clear();
        return text.runCommands(now);
    }

    // ---- what there is

    public int about(int what) throws IllegalArgumentException {
        throwFor(what < 0 || what > 13 ? OUT_OF_RANGE : FINE);
        return now.number(what);
    }

    public int gutterOf(int g, int what) throws IndexOutOfBoundsException, IllegalArgumentException {
        throwFor(now.hasGutter(g) ? FINE : NO_SUCH);
        throwFor(what < 0 || what > 6 ? OUT_OF_RANGE : FINE);
        return now.numberOfGutter(g, what);
    }

    public int boatOf(int b, int what) throws IndexOutOfBoundsException, IllegalArgumentException {
        throwFor(now.hasBoat(b) ? FINE : NO_SUCH);
        throwFor(what < 0 || what > 10 ? OUT_OF_RANGE : FINE);
        return what == 10 ? now.soakLimit(b) : now.boats.at(b, what);
    }

    public int ownerOf(int o, int what) throws IndexOutOfBoundsException, IllegalArgumentException {
        throwFor(now.hasOwner(o) ? FINE : NO_SUCH);
        throwFor(what < 0 || what > 4 ? OUT_OF_RANGE : FINE);
        return now.numberOfOwner(o, what);
    }

    public int way(int g, int c, int way) throws IndexOutOfBoundsException, IllegalArgumentException {
        throwFor(now.hasCell(g, c) ? FINE : NO_SUCH);
        throwFor(way != 0 && way != 1 ? OUT_OF_RANGE : FINE);
        return way == 0 ? now.wayByGutters(g, c) : now.wayByCells(g, c);
    }

    public int setting(int what) throws IllegalArgumentException {
        throwFor(what < RAIN || what > REACH ? OUT_OF_RANGE : FINE);
        return now.settingNow(what);
    }

    // ---- actions

    public int gutter(int length, int current, int into, int cell)
            throws IndexOutOfBoundsException, IllegalArgumentException, IllegalStateException {
        throwFor(now.gutterFault(length, current, into, cell));
        history.remember(now);
        return now.addGutter(length, current, into, cell);
    }

    public int boat(int folds, int wax, int owner)
            throws IndexOutOfBoundsException, IllegalArgumentException, IllegalStateException {
        throwFor(now.boatFault(folds, wax, owner));
        history.remember(now);
        return now.addBoat(folds, wax, owner);
    }

    public int launch(int b, int g) throws IndexOutOfBoundsException, IllegalStateException {
        throwFor(now.launchFault(b, g));
        history.remember(now);
        return now.launchBoat(b, g);
    }

    public int hook(int o, int g, int c) throws IndexOutOfBoundsException {
        throwFor(now.hookFault(o, g, c));
        history.remember(now);
        now.putHook(o, g, c);
        return now.countClaimable(o);
    }

    public int claim(int o, int b) throws IndexOutOfBoundsException {
        throwFor(now.claimFault(o, b));
        history.remember(now);
        int reason = now.reasonAgainst(o, b);
        if (reason == 0) {
            now.takeWreck(o, b);
        } else {
            now.refusals++;
        }
        return reason;
    }

    public int minutes(int n) throws IllegalArgumentException {
        throwFor(now.minutesFault(n));
        history.remember(now);
        return now.passMinutes(n);
    }

    public int set(int what, int v) throws IllegalArgumentException {
        throwFor(now.settingFault(what, v));
        history.remember(now);
        return now.changeSetting(what, v);
    }

    public int undo() throws IllegalStateException {
        throwFor(history.count == 0 ? NOT_NOW : FINE);
        return history.takeBack(now);
    }

    // ---- what would be, if nothing else is done

    public int why(int o, int b) throws IndexOutOfBoundsException {
        throwFor(now.claimFault(o, b));
        return now.reasonAgainst(o, b);
    }

    public int endsIn(int b, int what)
            throws IndexOutOfBoundsException, IllegalArgumentException, IllegalStateException {
        throwFor(now.hasBoat(b) ? FINE : NO_SUCH);
        throwFor(what != 0 && what != 1 ? OUT_OF_RANGE : FINE);
        throwFor(now.boats.at(b, STATE) != AFLOAT ? NOT_NOW : FINE);
        copy.copyFrom(now);
        int minutesAfloat = copy.minutesUntilEnd(b);
        boolean sinks = copy.boats.at(b, STATE) == SUNK;
        return sinks == (what == 1) ? minutesAfloat : NONE;
    }

    public int winner() {
        copy.copyFrom(now);
        copy.letHeatEnd();
        for (int b = 0; b < now.boats.rows; b++) {
            if (copy.boats.at(b, WINS) > now.boats.at(b, WINS)) {
                return b;
            }
        }
        return NONE;
    }

    public int leastFolds(int g, int wax) throws IndexOutOfBoundsException, IllegalArgumentException {
        throwFor(now.hasGutter(g) ? FINE : NO_SUCH);
        throwFor(wax < 0 || wax > MOST_WAX ? OUT_OF_RANGE : FINE);
        for (int folds = 1; folds <= MOST_FOLDS; folds++) {
            copy.copyFrom(now);
            int b = copy.addBoat(folds, wax, 0);
            copy.launchBoat(b, g);
            copy.minutesUntilEnd(b);
            if (copy.boats.at(b, STATE) != SUNK) {
                return folds;
            }
        }
        return NONE;
    }

    // ---- scripts, simulations

    public int runScript(int n, long script) throws IllegalArgumentException {
        throwFor(n < 1 || n > MOST_COMMANDS ? OUT_OF_RANGE : FINE);
        throwFor(script < 0 || withoutLowest(script, n) != 0 ? OUT_OF_RANGE : FINE);
        copy.copyFrom(now);
        for (int i = 0; i < n; i++) {
            if (!succeeds((int) (withoutLowest(script, n - 1 - i) % GROUP))) {
                return i;
            }
        }
        return NONE;
    }

    public int simulate(long seed, int m) throws IllegalArgumentException {
        throwFor(m < 1 || m > MOST_TURNS ? OUT_OF_RANGE : FINE);
        copy.copyFrom(now);
        long x = seed;
        for (int i = 0; i < m; i++) {
            x = x * 6364136223846793005L + 1442695040888963407L;
            takeTurn((int) (x >>> 33));
        }
        return 10000 * (copy.heats - now.heats)
                + 100 * (copy.owners.sum(POINTS) % 100)
                + copy.boats.count(STATE, SUNK);
    }

    // ---- save slots

    public int save(int slot) throws IndexOutOfBoundsException {
        throwFor(slot < 0 || slot >= SLOTS ? NO_SUCH : FINE);
        slots.put(slot, now);
        return now.minutesGone;
    }

    public int restore(int slot) throws IndexOutOfBoundsException, IllegalStateException {
        throwFor(slot < 0 || slot >= SLOTS ? NO_SUCH : FINE);
        throwFor(slots.holds(slot) ? FINE : NOT_NOW);
        slots.copyTo(slot, now);
        history.forget();
        return now.minutesGone;
    }

    private static void throwFor(int fault) {
        if (fault == NO_SUCH) {
            throw new IndexOutOfBoundsException("no such gutter, cell, boat, owner or save slot");
        }
        if (fault == OUT_OF_RANGE) {
            throw new IllegalArgumentException("an argument is out of its range");
        }
        if (fault == NOT_NOW) {
            throw new IllegalStateException("not possible in this state");
        }
    }

    private static long withoutLowest(long script, int groups) {
        long rest = script;
        for (int i = 0; i < groups; i++) {
            rest = rest / GROUP;
        }
        return rest;
    }

    private boolean succeeds(int group) {
        int d2 = group / 1000 % 10;
        int d3 = group / 100 % 10;
        int d4 = group / 10 % 10;
        int d5 = group % 10;
        int two = 10 * d4 + d5;
        switch (group / 10000) {
            case 1:
                return two == 0 && copy.perform('l', d2, d3, 0, 0);
            case 2:
                return d2 == 0 && d3 == 0 && copy.perform('m', two, 0, 0, 0);
            case 3:
                return copy.perform('h', d2, d3, two, 0);
            case 4:
                return two == 0 && copy.perform('c', d2, d3, 0, 0);
            case 5:
                return d3 == 0 && d4 == 0 && copy.perform('s', d2, d5, 0, 0);
            case 6:
                return d5 == 0 && copy.perform('b', d2, d3, d4, 0);
            case 7:
                return d3 == 0 && d4 == 0 && copy.hasBoat(d2) && copy.boats.at(d2, STATE) == d5;
            case 8:
                return d3 == 0 && copy.hasOwner(d2) && copy.owners.at(d2, POINTS) >= two;
            case 9:
                return d3 == 0 && copy.hasBoat(d2) && copy.boats.at(d2, SOAK) <= two;
            default:
                return false;
        }
    }

    private void takeTurn(int r) {
        int q = r / 16;
        switch (r % 16) {
            case 0:
                copy.perform('g', 4 + q % 20, q / 32 % 6, q / 256 % 6, q / 2048 % 20);
                break;
            case 1:
            case 2:
                copy.perform('b', 1 + q % 9, q / 16 % 4, q / 64 % 4, 0);
                break;
            case 3:
            case 4:
            case 5:
            case 6:
                copy.perform('l', q % 10, q / 16 % 6, 0, 0);
                break;
            case 7:
                copy.perform('h', q % 4, q / 4 % 6, q / 32 % 20, 0);
                break;
            case 8:
            case 9:
                copy.perform('c', q % 4, q / 4 % 10, 0, 0);
                break;
            case 10:
                copy.perform('s', q % 3, q / 4 % 5, 0, 0);
                break;
            default:
                copy.perform('m', 1 + q % 4, 0, 0, 0);
                break;
        }
    }

    /** Rows of numbers; each index is looked at here, so that no caller can step beside the array. */
    private static final class Table {
        private final int columns;
        private final int[] cells;
        private int rows;

        Table(int capacity, int columns) {
            this.columns = Math.max(1, columns);
            this.cells = new int[Math.max(0, capacity * columns)];
        }

        int addRow() {
            if ((rows + 1) * columns > cells.length) {
                return NONE;
            }
            for (int i = rows * columns; i < (rows + 1) * columns && i < cells.length; i++) {
                cells[i] = 0;
            }
            rows++;
            return rows - 1;
        }

        int at(int row, int column) {
            int index = row * columns + column;
            return row >= 0 && row < rows && column >= 0 && column < columns && index < cells.length
                    ? cells[index] : NONE;
        }

        void put(int row, int column, int value) {
            int index = row * columns + column;
            if (row >= 0 && row < rows && column >= 0 && column < columns && index < cells.length) {
                cells[index] = value;
            }
        }

        void increase(int row, int column, int by) {
            put(row, column, at(row, column) + by);
        }

        int sum(int column) {
            int sum = 0;
            for (int row = 0; row < rows; row++) {
                sum += at(row, column);
            }
            return sum;
        }

        int count(int column, int value) {
            int count = 0;
            for (int row = 0; row < rows; row++) {
                if (at(row, column) == value) {
                    count++;
                }
            }
            return count;
        }

        void copyFrom(Table other) {
            rows = other.rows;
            System.arraycopy(other.cells, 0, cells, 0, Math.min(cells.length, other.cells.length));
        }
    }

    /** One state of everything but the text and the save slots, with the rules of the game. */
    private static final class Tournament {
        private final Table gutters;
        private final Table boats;
        private final Table owners;
        private int rain;
        private int minutesForAFold;
        private int reach;
        private int minutesGone;
        private int heats;
        private boolean heatUnderWay;
        private int refusals;

        Tournament() {
            gutters = new Table(GUTTER_LIMIT, GUTTER_COLUMNS);
            // leastFolds tries one boat more than the limit.
            boats = new Table(BOAT_LIMIT + 1, BOAT_COLUMNS);
            owners = new Table(OWNERS, OWNER_COLUMNS);
            makeNew();
        }

        void makeNew() {
            gutters.rows = 0;
            boats.rows = 0;
            owners.rows = 0;
            for (int i = 0; i < OWNERS; i++) {
                int o = owners.addRow();
                owners.put(o, HOOK_GUTTER, NONE);
                owners.put(o, HOOK_CELL, NONE);
            }
            rain = 0;
            minutesForAFold = 3;
            reach = 2;
            minutesGone = 0;
            heats = 0;
            heatUnderWay = false;
            refusals = 0;
        }

        void copyFrom(Tournament other) {
            gutters.copyFrom(other.gutters);
            boats.copyFrom(other.boats);
            owners.copyFrom(other.owners);
            rain = other.rain;
            minutesForAFold = other.minutesForAFold;
            reach = other.reach;
            minutesGone = other.minutesGone;
            heats = other.heats;
            heatUnderWay = other.heatUnderWay;
            refusals = other.refusals;
        }

        boolean hasGutter(int g) {
            return g >= 0 && g < gutters.rows;
        }

        boolean hasCell(int g, int c) {
            return hasGutter(g) && c >= 0 && c < gutters.at(g, LENGTH);
        }

        boolean hasBoat(int b) {
            return b >= 0 && b < boats.rows;
        }

        boolean hasOwner(int o) {
            return o >= 0 && o < OWNERS;
        }

        // The faults are asked for in the order in which the document names the exceptions.

        int gutterFault(int length, int current, int into, int cell) {
            if (gutters.rows > 0 && !hasCell(into, cell)) {
                return NO_SUCH;
            }
            if (length < 4 || length > 40 || current < 0 || current > 5) {
                return OUT_OF_RANGE;
            }
            return gutters.rows >= GUTTER_LIMIT ? NOT_NOW : FINE;
        }

        int boatFault(int folds, int wax, int owner) {
            if (!hasOwner(owner)) {
                return NO_SUCH;
            }
            if (folds < 1 || folds > MOST_FOLDS || wax < 0 || wax > MOST_WAX) {
                return OUT_OF_RANGE;
            }
            return boats.rows >= BOAT_LIMIT ? NOT_NOW : FINE;
        }

        int launchFault(int b, int g) {
            if (!hasBoat(b) || !hasGutter(g)) {
                return NO_SUCH;
            }
            return boats.at(b, STATE) != DRY ? NOT_NOW : FINE;
        }

        int hookFault(int o, int g, int c) {
            return hasOwner(o) && hasCell(g, c) ? FINE : NO_SUCH;
        }

        int claimFault(int o, int b) {
            return hasOwner(o) && hasBoat(b) ? FINE : NO_SUCH;
        }

        int minutesFault(int n) {
            return n < 1 || n > MOST_MINUTES ? OUT_OF_RANGE : FINE;
        }

        int settingFault(int what, int v) {
            if (what < RAIN || what > REACH) {
                return OUT_OF_RANGE;
            }
            int least = what == MINUTES_FOR_A_FOLD ? 1 : 0;
            int greatest = what == RAIN ? 3 : 9;
            return v < least || v > greatest ? OUT_OF_RANGE : FINE;
        }

        // Texts, scripts and simulations share the commands, by their letters in a text. A command that
        // does not succeed changes nothing here: claims that these let be refused are counted nowhere.
        boolean perform(int letter, int a, int b, int c, int d) {
            switch (letter) {
                case 'g':
                    return gutterFault(a, b, c, d) == FINE && addGutter(a, b, c, d) >= 0;
                case 'b':
                    return boatFault(a, b, c) == FINE && addBoat(a, b, c) >= 0;
                case 'l':
                    return launchFault(a, b) == FINE && launchBoat(a, b) >= 0;
                case 'm':
                    return minutesFault(a) == FINE && passMinutes(a) >= 0;
                case 'h':
                    if (hookFault(a, b, c) != FINE) {
                        return false;
                    }
                    putHook(a, b, c);
                    return true;
                case 'c':
                    return claimFault(a, b) == FINE && reasonAgainst(a, b) == 0 && takeWreck(a, b) >= 0;
                case 's':
                    return settingFault(a, b) == FINE && changeSetting(a, b) >= 0;
                default:
                    return false;
            }
        }

        int addGutter(int length, int current, int into, int cell) {
            int g = gutters.addRow();
            gutters.put(g, LENGTH, length);
            gutters.put(g, CURRENT, current);
            gutters.put(g, INTO, g == 0 ? NONE : into);
            gutters.put(g, INTO_CELL, g == 0 ? NONE : cell);
            return g;
        }

        int addBoat(int folds, int wax, int owner) {
            int b = boats.addRow();
            boats.put(b, FOLDS, folds);
            boats.put(b, WAX, wax);
            boats.put(b, OWNER, owner);
            takeOut(b, DRY);
            return b;
        }

        int launchBoat(int b, int g) {
            if (boats.count(STATE, AFLOAT) == 0 && boats.count(STATE, ARRIVED) == 0) {
                heats++;
                heatUnderWay = true;
            }
            boats.put(b, STATE, AFLOAT);
            boats.put(b, GUTTER, g);
            boats.put(b, CELL, 0);
            boats.put(b, SOAK, 0);
            return wayByGutters(g, 0);
        }

        void putHook(int o, int g, int c) {
            owners.put(o, HOOK_GUTTER, g);
            owners.put(o, HOOK_CELL, c);
        }

        int takeWreck(int o, int b) {
            int points = boats.at(b, FOLDS);
            owners.increase(o, POINTS, points);
            takeOut(b, CLAIMED);
            return points;
        }

        int changeSetting(int what, int v) {
            int before = settingNow(what);
            if (what == RAIN) {
                rain = v;
            } else if (what == MINUTES_FOR_A_FOLD) {
                minutesForAFold = v;
            } else {
                reach = v;
            }
            return before;
        }

        int settingNow(int what) {
            if (what == RAIN) {
                return rain;
            }
            return what == MINUTES_FOR_A_FOLD ? minutesForAFold : reach;
        }

        int passMinutes(int n) {
            int arrivals = 0;
            for (int i = 0; i < n; i++) {
                minutesGone++;
                for (int b = 0; b < boats.rows; b++) {
                    if (boats.at(b, STATE) != AFLOAT) {
                        continue;
                    }
                    if (driftsIntoDrain(b)) {
                        arrive(b);
                        arrivals++;
                    } else {
                        soakUp(b);
                    }
                }
                if (heatUnderWay && boats.count(STATE, AFLOAT) == 0) {
                    endHeat();
                }
            }
            return arrivals;
        }

        private boolean driftsIntoDrain(int b) {
            int cells = gutters.at(boats.at(b, GUTTER), CURRENT) + rain - boats.at(b, FOLDS) / 4;
            for (int i = 0; i < cells; i++) {
                int g = nextGutter(boats.at(b, GUTTER), boats.at(b, CELL));
                int c = nextCell(boats.at(b, GUTTER), boats.at(b, CELL));
                if (g != NONE && hasWreck(g, c)) {
                    return false;
                }
                boats.increase(b, DRIFTED, 1);
                boats.put(b, GUTTER, g);
                boats.put(b, CELL, c);
                if (g == NONE) {
                    return true;
                }
            }
            return false;
        }

        private int nextGutter(int g, int c) {
            return c + 1 < gutters.at(g, LENGTH) ? g : gutters.at(g, INTO);
        }

        private int nextCell(int g, int c) {
            return c + 1 < gutters.at(g, LENGTH) ? c + 1 : gutters.at(g, INTO_CELL);
        }

        private boolean hasWreck(int g, int c) {
            for (int b = 0; b < boats.rows; b++) {
                if (boats.at(b, STATE) == SUNK && boats.at(b, GUTTER) == g && boats.at(b, CELL) == c) {
                    return true;
                }
            }
            return false;
        }

        private void arrive(int b) {
            // Those that have arrived stay so until the heat is over, so they tell the next place.
            int place = boats.count(STATE, ARRIVED) + 1;
            takeOut(b, ARRIVED);
            boats.put(b, PLACE, place);
        }

        private void soakUp(int b) {
            boats.increase(b, SOAK, 1 + rain);
            if (boats.at(b, SOAK) > soakLimit(b)) {
                boats.put(b, STATE, SUNK);
            }
        }

        int soakLimit(int b) {
            return boats.at(b, FOLDS) * minutesForAFold + 4 * boats.at(b, WAX);
        }

        private void endHeat() {
            heatUnderWay = false;
            for (int b = 0; b < boats.rows; b++) {
                if (boats.at(b, STATE) != ARRIVED) {
                    continue;
                }
                if (boats.at(b, PLACE) == 1) {
                    owners.increase(boats.at(b, OWNER), POINTS, 3);
                    boats.increase(b, WINS, 1);
                }
                takeOut(b, DRY);
            }
        }

        private void takeOut(int b, int state) {
            boats.put(b, STATE, state);
            boats.put(b, GUTTER, NONE);
            boats.put(b, CELL, NONE);
            boats.put(b, PLACE, NONE);
        }

        int minutesUntilEnd(int b) {
            for (int i = 0; i < VOYAGE_BOUND; i++) {
                if (boats.at(b, STATE) != AFLOAT) {
                    return i;
                }
                passMinutes(1);
            }
            return NONE;
        }

        void letHeatEnd() {
            for (int i = 0; i < VOYAGE_BOUND && heatUnderWay; i++) {
                passMinutes(1);
            }
        }

        int wayByGutters(int g, int c) {
            int way = gutters.at(g, LENGTH) - c;
            int from = g;
            for (int i = 0; i < GUTTER_LIMIT && gutters.at(from, INTO) != NONE; i++) {
                int into = gutters.at(from, INTO);
                way += gutters.at(into, LENGTH) - gutters.at(from, INTO_CELL);
                from = into;
            }
            return way;
        }

        int wayByCells(int g, int c) {
            int gutter = g;
            int cell = c;
            for (int way = 0; way < WAY_BOUND; way++) {
                if (gutter == NONE) {
                    return way;
                }
                int next = nextGutter(gutter, cell);
                cell = nextCell(gutter, cell);
                gutter = next;
            }
            return NONE;
        }

        int reasonAgainst(int o, int b) {
            if (boats.at(b, STATE) != SUNK) {
                return 1;
            }
            int distance = hookDistance(o, b);
            if (distance == NONE || distance > reach) {
                return 2;
            }
            for (int other = 0; other < OWNERS; other++) {
                int otherDistance = hookDistance(other, b);
                if (otherDistance != NONE && otherDistance < distance) {
                    return 3;
                }
            }
            return 0;
        }

        private int hookDistance(int o, int b) {
            if (owners.at(o, HOOK_GUTTER) != boats.at(b, GUTTER)) {
                return NONE;
            }
            return Math.abs(owners.at(o, HOOK_CELL) - boats.at(b, CELL));
        }

        int countClaimable(int o) {
            int count = 0;
            for (int b = 0; b < boats.rows; b++) {
                if (reasonAgainst(o, b) == 0) {
                    count++;
                }
            }
            return count;
        }

        int number(int what) {
            switch (what) {
                case 0:
                    return gutters.rows;
                case 1:
                    return boats.rows;
                case 7:
                    return minutesGone;
                case 8:
                    return heats;
                case 9:
                    return heatUnderWay ? 1 : 0;
                case 10:
                    return boats.sum(WINS);
                case 11:
                    return refusals;
                case 12:
                    return owners.sum(POINTS);
                case 13:
                    return boats.sum(DRIFTED);
                default:
                    return boats.count(STATE, what - 2);
            }
        }

        int numberOfGutter(int g, int what) {
            switch (what) {
                case 4:
                    return countInGutter(g, AFLOAT);
                case 5:
                    return countInGutter(g, SUNK);
                case 6:
                    return lowestWreck(g);
                default:
                    return gutters.at(g, what);
            }
        }

        private int countInGutter(int g, int state) {
            int count = 0;
            for (int b = 0; b < boats.rows; b++) {
                if (boats.at(b, STATE) == state && boats.at(b, GUTTER) == g) {
                    count++;
                }
            }
            return count;
        }

        private int lowestWreck(int g) {
            for (int c = 0; c < gutters.at(g, LENGTH); c++) {
                if (hasWreck(g, c)) {
                    return c;
                }
            }
            return NONE;
        }

        int numberOfOwner(int o, int what) {
            switch (what) {
                case 0:
                    return owners.at(o, POINTS);
                case 1:
                    return boats.count(OWNER, o);
                case 2:
                    return owners.at(o, HOOK_GUTTER);
                case 3:
                    return owners.at(o, HOOK_CELL);
                default:
                    return countClaimable(o);
            }
        }
    }

    /** The text buffer, and the reading of the commands in it. */
    private static final class Text {
        private final int[] characters;
        private final int[] numbers;
        private int length;
        private int position;
        private int letter;

        Text() {
            characters = new int[TEXT_LIMIT];
            numbers = new int[4];
        }

        boolean isFull() {
            return length >= TEXT_LIMIT;
        }

        int add(int c) {
            if (length >= 0 && length < characters.length) {
                characters[length] = c;
                length++;
            }
            return length;
        }

        int makeEmpty() {
            int before = length;
            length = 0;
            return before;
        }

        int firstError() {
            position = 0;
            if (atHand() != 'T') {
                return 0;
            }
            position = 1;
            for (int i = 0; i < TEXT_LIMIT && position < length; i++) {
                if (!readCommand()) {
                    return position;
                }
            }
            return NONE;
        }

        // Only for a text without an error: what readCommand answers is not looked at again.
        int runCommands(Tournament tournament) {
            int leftOut = 0;
            position = 1;
            for (int i = 0; i < TEXT_LIMIT && position < length; i++) {
                readCommand();
                if (!tournament.perform(letter, numberAt(0), numberAt(1), numberAt(2), numberAt(3))) {
                    leftOut++;
                }
            }
            return leftOut;
        }

        // The position stays at the character that is not allowed: it is the error position then.
        private boolean readCommand() {
            letter = atHand();
            int[] allowed = numbersBehind(letter);
            if (allowed.length == 0) {
                return false;
            }
            position++;
            for (int i = 0; i < numbers.length && 3 * i + 2 < allowed.length; i++) {
                int number = readNumber(allowed[3 * i], allowed[3 * i + 1], allowed[3 * i + 2]);
                if (number == NONE) {
                    return false;
                }
                numbers[i] = number;
            }
            return true;
        }

        private int readNumber(int firstUnit, int least, int greatest) {
            int number = 0;
            for (int unit = firstUnit; unit > 0; unit /= 10) {
                int digit = atHand() - '0';
                if (digit < 0 || digit > 9) {
                    return NONE;
                }
                number += digit * unit;
                if (number > greatest || number + unit - 1 < least) {
                    return NONE;
                }
                position++;
            }
            return number;
        }

        private int numberAt(int i) {
            return i >= 0 && i < numbers.length ? numbers[i] : 0;
        }

        private int atHand() {
            return position >= 0 && position < length && position < characters.length
                    ? characters[position] : NONE;
        }

        private static int[] numbersBehind(int letter) {
            switch (letter) {
                case 'g':
                    return GUTTER_NUMBERS;
                case 'b':
                    return BOAT_NUMBERS;
                case 'l':
                    return LAUNCH_NUMBERS;
                case 'm':
                    return MINUTES_NUMBERS;
                case 'h':
                    return HOOK_NUMBERS;
                case 'c':
                    return CLAIM_NUMBERS;
                case 's':
                    return SET_NUMBERS;
                default:
                    return NO_NUMBERS;
            }
        }
    }

    /** Places for states, made once and written over, so that no call makes new ones. */
    private static final class Shelf {
        private final Tournament[] places;
        private final boolean[] filled;

        Shelf(int size) {
            int length = Math.max(0, size);
            places = new Tournament[length];
            filled = new boolean[length];
            for (int i = 0; i < places.length; i++) {
                places[i] = new Tournament();
            }
        }

        boolean holds(int place) {
            return place >= 0 && place < filled.length && filled[place];
        }

        void put(int place, Tournament state) {
            Tournament kept = keptAt(place);
            if (kept != null && place >= 0 && place < filled.length) {
                kept.copyFrom(state);
                filled[place] = true;
            }
        }

        void copyTo(int place, Tournament state) {
            Tournament kept = keptAt(place);
            if (kept != null) {
                state.copyFrom(kept);
            }
        }

        void clear() {
            for (int i = 0; i < filled.length; i++) {
                filled[i] = false;
            }
        }

        private Tournament keptAt(int place) {
            return place >= 0 && place < places.length ? places[place] : null;
        }
    }

    /** The remembered states, in a ring: the newest takes the place of the oldest. */
    private static final class History {
        private final Shelf shelf;
        private int next;
        private int count;

        History() {
            shelf = new Shelf(REMEMBERED_LIMIT);
        }

        void remember(Tournament state) {
            shelf.put(next, state);
            next = (next + 1) % REMEMBERED_LIMIT;
            count = Math.min(count + 1, REMEMBERED_LIMIT);
        }

        int takeBack(Tournament state) {
            if (count > 0) {
                next = (next + REMEMBERED_LIMIT - 1) % REMEMBERED_LIMIT;
                count--;
                shelf.copyTo(next, state);
            }
            return count;
        }

        void forget() {
            count = 0;
        }
    }
}
