import java.util.NoSuchElementException;

/**
 * A dispatcher for clearing snow from streets: ploughs carry out orders one after the other and drive along
 * shortest paths, salt melts snow for some hours, snow falls and drifts with the wind, and residents complain
 * about deep snow.
 */
public final class SnowDispatcher {
    private static final int JUNCTIONS = 8;
    private static final int MOST_STREETS = 12;
    private static final int MOST_LENGTH = 9;
    private static final int DEEPEST = 200;
    private static final int MOST_PLOUGHS = 4;
    private static final int MOST_ORDERS = 5;
    private static final int DRIVING_MINUTES = 2;
    private static final int PLOUGHING_MINUTES = 4;
    private static final int SALT_LASTS = 240;
    private static final int SALT_MELTS = 3;
    private static final int FULL_STORE = 500;
    private static final int MOST_LOADED = 200;
    private static final int STRONGEST = 9;
    private static final int HOUR = 60;
    private static final int MOST_MINUTES = 600;
    private static final int MOST_UNDONE = 8;
    private static final int MOST_TYPED = 60;
    private static final int NONE = -1;

    /** Stands for "no path": longer than every path, and small enough that two of it can be added. */
    private static final int NO_PATH = 1000000;

    // What a change answers instead of its number, which is never negative, when it is refused. A script must
    // learn of a refusal without an exception, so the exceptions are thrown in the face alone.
    private static final int NO_INDEX = -1;
    private static final int BAD_ARGUMENT = -2;
    private static final int UNSUPPORTED = -3;
    private static final int BAD_STATE = -4;
    private static final int NO_ELEMENT = -5;

    private final Paths paths;
    private final Town town;
    private final Town future;
    private final Town snapshot;
    private final History history;
    private final Script script;
    private final StringBuilder output;
    private boolean saved;
    private int wrongPosition;
    private int refusedCommand;

    public SnowDispatcher() {
        paths = new Paths();
        town = new Town(paths);
        future = new Town(paths);
        snapshot = new Town(paths);
        history = new History(paths);
        script = new Script();
        output = new StringBuilder();
        saved = false;
        wrongPosition = NONE;
        refusedCommand = NONE;
    }

    // Changes

    public int addStreet(int first, int second, char streetClass, int length)
            throws IndexOutOfBoundsException, IllegalArgumentException, IllegalStateException {
        history.write(town);
        int street = town.putStreet(first, second, streetClass, length);
        if (street == NO_INDEX) {
            throw new IndexOutOfBoundsException("no such junction");
        }
        if (street == BAD_ARGUMENT) {
            throw new IllegalArgumentException("twice the same junction, no such class, or no such length");
        }
        if (street == BAD_STATE) {
            throw new IllegalStateException("there are 12 streets, or the junctions are connected");
        }
        history.push();
        return street;
    }

    public int addPlough(int junction) throws IndexOutOfBoundsException, IllegalStateException {
        history.write(town);
        int plough = town.putPlough(junction);
        if (plough == NO_INDEX) {
            throw new IndexOutOfBoundsException("no such junction");
        }
        if (plough == BAD_STATE) {
            throw new IllegalStateException("there are 4 ploughs");
        }
        history.push();
        return plough;
    }

    public int order(int plough, int street) throws IndexOutOfBoundsException, IllegalStateException {
        history.write(town);
        int orders = town.appendOrder(plough, street);
        if (orders == NO_INDEX) {
            throw new IndexOutOfBoundsException("no such plough or no such street");
        }
        if (orders == BAD_STATE) {
            throw new IllegalStateException("there are 5 orders in the queue");
        }
        history.push();
        return orders;
    }

    public int cancelOrder(int plough) throws IndexOutOfBoundsException, NoSuchElementException {
        history.write(town);
        int street = town.removeOrder(plough);
        if (street == NO_INDEX) {
            throw new IndexOutOfBoundsException("no such plough");
        }
        if (street == NO_ELEMENT) {
            throw new NoSuchElementException("the queue is empty");
        }
        history.push();
        return street;
    }

    public int salt(int street)
            throws IndexOutOfBoundsException, UnsupportedOperationException, IllegalStateException {
        history.write(town);
        int left = town.spreadSalt(street);
        if (left == NO_INDEX) {
            throw new IndexOutOfBoundsException("no such street");
        }
        if (left == UNSUPPORTED) {
            throw new UnsupportedOperationException("the street is salted");
        }
        if (left == BAD_STATE) {
            throw new IllegalStateException("the store has too few units");
        }
        history.push();
        return left;
    }

    public int loadSalt(int units) throws IllegalArgumentException, UnsupportedOperationException {
        history.write(town);
        int stored = town.fillStore(units);
        if (stored == BAD_ARGUMENT) {
            throw new IllegalArgumentException("not between 1 and 200 units");
        }
        if (stored == UNSUPPORTED) {
            throw new UnsupportedOperationException("the store would contain more than 500 units");
        }
        history.push();
        return stored;
    }

    public int setSnowfall(int rate) throws IllegalArgumentException {
        history.write(town);
        int previous = town.changeRate(rate);
        if (previous == BAD_ARGUMENT) {
            throw new IllegalArgumentException("the rate is not between 0 and 9");
        }
        history.push();
        return previous;
    }

    public int setWind(int force) throws IllegalArgumentException {
        history.write(town);
        int previous = town.changeForce(force);
        if (previous == BAD_ARGUMENT) {
            throw new IllegalArgumentException("the force is not between 0 and 9");
        }
        history.push();
        return previous;
    }

    public int advance(int minutes) throws IllegalArgumentException {
        history.write(town);
        int clearings = town.passMinutes(minutes);
        if (clearings == BAD_ARGUMENT) {
            throw new IllegalArgumentException("not between 1 and 600 minutes");
        }
        history.push();
        return clearings;
    }

    // Streets

    public int streetCount() {
        return town.streets.count;
    }

    public int lowerEnd(int street) throws IndexOutOfBoundsException {
        if (!town.streets.has(street)) {
            throw new IndexOutOfBoundsException("no such street");
        }
        return town.streets.lower[street];
    }

    public int higherEnd(int street) throws IndexOutOfBoundsException {
        if (!town.streets.has(street)) {
            throw new IndexOutOfBoundsException("no such street");
        }
        return town.streets.higher[street];
    }

    public char streetClass(int street) throws IndexOutOfBoundsException {
        if (!town.streets.has(street)) {
            throw new IndexOutOfBoundsException("no such street");
        }
        return town.streets.kind[street];
    }

    public int length(int street) throws IndexOutOfBoundsException {
        if (!town.streets.has(street)) {
            throw new IndexOutOfBoundsException("no such street");
        }
        return town.streets.size[street];
    }

    public int depth(int street) throws IndexOutOfBoundsException {
        if (!town.streets.has(street)) {
            throw new IndexOutOfBoundsException("no such street");
        }
        return town.streets.snow[street];
    }

    public boolean isOverdue(int street) throws IndexOutOfBoundsException {
        if (!town.streets.has(street)) {
            throw new IndexOutOfBoundsException("no such street");
        }
        return town.streets.excess(street) > 0;
    }

    public boolean isSalted(int street) throws IndexOutOfBoundsException {
        if (!town.streets.has(street)) {
            throw new IndexOutOfBoundsException("no such street");
        }
        return town.streets.saltLeft(street, town.time) > 0;
    }

    public int saltMinutes(int street) throws IndexOutOfBoundsException, NoSuchElementException {
        if (!town.streets.has(street)) {
            throw new IndexOutOfBoundsException("no such street");
        }
        int left = town.streets.saltLeft(street, town.time);
        if (left <= 0) {
            throw new NoSuchElementException("the street is not salted");
        }
        return left;
    }

    public int complaints(int street) throws IndexOutOfBoundsException {
        if (!town.streets.has(street)) {
            throw new IndexOutOfBoundsException("no such street");
        }
        return town.streets.complained[street];
    }

    public int distance(int first, int second) throws IndexOutOfBoundsException, NoSuchElementException {
        if (!isJunction(first) || !isJunction(second)) {
            throw new IndexOutOfBoundsException("no such junction");
        }
        paths.measureFrom(first, town.streets);
        int found = paths.reachOf(second);
        if (found >= NO_PATH) {
            throw new NoSuchElementException("there is no path");
        }
        return found;
    }

    public int distanceByJunctions(int first, int second) throws IndexOutOfBoundsException, NoSuchElementException {
        if (!isJunction(first) || !isJunction(second)) {
            throw new IndexOutOfBoundsException("no such junction");
        }
        paths.improveAll(town.streets);
        int found = paths.between(first, second);
        if (found >= NO_PATH) {
            throw new NoSuchElementException("there is no path");
        }
        return found;
    }

    public int streetByUrgency(int rank) throws NoSuchElementException {
        int street = town.streets.atRank(rank);
        if (street < 0) {
            throw new NoSuchElementException("no such rank");
        }
        return street;
    }

    // Ploughs

    public int ploughCount() {
        return town.ploughs.count;
    }

    public boolean isBusy(int plough) throws IndexOutOfBoundsException {
        if (!town.ploughs.has(plough)) {
            throw new IndexOutOfBoundsException("no such plough");
        }
        return town.ploughs.minutesLeft[plough] > 0;
    }

    public int junction(int plough) throws IndexOutOfBoundsException {
        if (!town.ploughs.has(plough)) {
            throw new IndexOutOfBoundsException("no such plough");
        }
        return town.ploughs.place[plough];
    }

    public int currentStreet(int plough) throws IndexOutOfBoundsException, NoSuchElementException {
        if (!town.ploughs.has(plough)) {
            throw new IndexOutOfBoundsException("no such plough");
        }
        if (town.ploughs.minutesLeft[plough] <= 0) {
            throw new NoSuchElementException("the plough is idle");
        }
        return town.ploughs.target[plough];
    }

    public int busyMinutes(int plough) throws IndexOutOfBoundsException {
        if (!town.ploughs.has(plough)) {
            throw new IndexOutOfBoundsException("no such plough");
        }
        return town.ploughs.minutesLeft[plough];
    }

    public int queueLength(int plough) throws IndexOutOfBoundsException {
        if (!town.ploughs.has(plough)) {
            throw new IndexOutOfBoundsException("no such plough");
        }
        return town.ploughs.waiting[plough];
    }

    public int queuedStreet(int plough, int position) throws IndexOutOfBoundsException, NoSuchElementException {
        if (!town.ploughs.has(plough)) {
            throw new IndexOutOfBoundsException("no such plough");
        }
        int street = town.ploughs.waitingAt(plough, position);
        if (street < 0) {
            throw new NoSuchElementException("no such position");
        }
        return street;
    }

    public int orderMinutes(int plough, int street) throws IndexOutOfBoundsException, NoSuchElementException {
        if (!town.ploughs.has(plough) || !town.streets.has(street)) {
            throw new IndexOutOfBoundsException("no such plough or no such street");
        }
        int minutes = town.minutesFor(plough, street);
        if (minutes >= NO_PATH) {
            throw new NoSuchElementException("no path leads to the street");
        }
        return minutes;
    }

    public int minutesUntilCleared(int street) throws IndexOutOfBoundsException, NoSuchElementException {
        if (!town.streets.has(street)) {
            throw new IndexOutOfBoundsException("no such street");
        }
        int minutes = foretellClearing(street);
        if (minutes < 0) {
            throw new NoSuchElementException("the street is not cleared within 600 minutes");
        }
        return minutes;
    }

    /** Tells after how many minutes the street is cleared, or NONE. */
    private int foretellClearing(int street) {
        future.copyFrom(town);
        int before = future.streets.timesCleared(street);
        for (int minutes = 1; minutes <= MOST_MINUTES; minutes++) {
            future.passMinutes(1);
            if (future.streets.timesCleared(street) > before) {
                return minutes;
            }
        }
        return NONE;
    }

    public int depthAfter(int street, int minutes) throws IndexOutOfBoundsException, IllegalArgumentException {
        if (!town.streets.has(street)) {
            throw new IndexOutOfBoundsException("no such street");
        }
        if (minutes < 0 || minutes > MOST_MINUTES) {
            throw new IllegalArgumentException("not between 0 and 600 minutes");
        }
        if (minutes == 0) {
            return town.streets.snow[street];
        }
        future.copyFrom(town);
        future.passMinutes(minutes);
        return future.streets.snow[street];
    }

    // Totals and checks

    public int time() {
        return town.time;
    }

    public int saltStore() {
        return town.store;
    }

    public int snowfall() {
        return town.rate;
    }

    public int wind() {
        return town.force;
    }

    public int clearedTotal() {
        return town.cleared;
    }

    public int ploughedTotal() {
        return town.ploughed;
    }

    public int failedOrders() {
        return town.failed;
    }

    public int complaintTotal() {
        return town.complained;
    }

    public double meanDepth() throws ArithmeticException {
        int count = town.streets.count;
        if (count <= 0) {
            throw new ArithmeticException("there are no streets");
        }
        return (double) town.streets.snowSum() / (double) count;
    }

    public float saltedShare() throws ArithmeticException {
        int count = town.streets.count;
        if (count <= 0) {
            throw new ArithmeticException("there are no streets");
        }
        return (float) town.streets.saltedCount(town.time) / (float) count;
    }

    public boolean isConsistent() {
        return distancesAgree() && town.streets.complaintSum() == town.complained && town.streets.depthsAllowed();
    }

    private boolean distancesAgree() {
        paths.improveAll(town.streets);
        for (int first = 0; first < JUNCTIONS; first++) {
            paths.measureFrom(first, town.streets);
            for (int second = 0; second < JUNCTIONS; second++) {
                if (paths.reachOf(second) != paths.between(first, second)) {
                    return false;
                }
            }
        }
        return true;
    }

    // Output and scripts

    public int renderStreet(int street) throws IndexOutOfBoundsException {
        Streets streets = town.streets;
        if (!streets.has(street)) {
            throw new IndexOutOfBoundsException("no such street");
        }
        output.setLength(0);
        output.append(street);
        output.append(':');
        output.append(streets.lower[street]);
        output.append('-');
        output.append(streets.higher[street]);
        output.append(streets.kind[street]);
        output.append(streets.snow[street]);
        output.append("cm");
        if (streets.saltLeft(street, town.time) > 0) {
            output.append('*');
        }
        return output.length();
    }

    public int renderQueue(int plough) throws IndexOutOfBoundsException {
        Ploughs ploughs = town.ploughs;
        if (!ploughs.has(plough)) {
            throw new IndexOutOfBoundsException("no such plough");
        }
        output.setLength(0);
        for (int position = 0; position < ploughs.waiting[plough]; position++) {
            if (position > 0) {
                output.append(',');
            }
            output.append(ploughs.waitingAt(plough, position));
        }
        return output.length();
    }

    public char outputAt(int index) throws IndexOutOfBoundsException {
        if (index < 0 || index >= output.length()) {
            throw new IndexOutOfBoundsException("no such index");
        }
        return output.charAt(index);
    }

    public int type(char character) throws IllegalArgumentException, IllegalStateException {
        if (character < 32 || character > 126) {
            throw new IllegalArgumentException("the character cannot be typed");
        }
        if (script.text.length() >= MOST_TYPED) {
            throw new IllegalStateException("the script buffer is full");
        }
        script.text.append(character);
        return script.text.length();
    }

    public int runScript() throws IllegalArgumentException, IllegalStateException {
        int commands = script.countCommands();
        if (commands < 0) {
            wrongPosition = script.at;
            script.text.setLength(0);
            throw new IllegalArgumentException("the script does not have the required form");
        }
        history.write(town);
        script.at = 0;
        for (int command = 0; command < commands; command++) {
            if (obeyNext() < 0) {
                refusedCommand = command;
                history.read(town);
                script.text.setLength(0);
                throw new IllegalStateException("a command of the script failed");
            }
        }
        history.push();
        script.text.setLength(0);
        return commands;
    }

    /** Carries out the next command of a script that has the required form, and answers as its change does. */
    private int obeyNext() {
        script.readNext();
        switch (script.verb) {
            case Script.STREET:
                return town.putStreet(script.value(0), script.value(1), (char) script.value(2), script.value(3));
            case Script.PLOUGH:
                return town.putPlough(script.value(0));
            case Script.ORDER:
                return town.appendOrder(script.value(0), script.value(1));
            case Script.CANCEL:
                return town.removeOrder(script.value(0));
            case Script.SALT:
                return town.spreadSalt(script.value(0));
            case Script.LOAD:
                return town.fillStore(script.value(0));
            case Script.SNOW:
                return town.changeRate(script.value(0));
            case Script.WIND:
                return town.changeForce(script.value(0));
            default:
                return town.passMinutes(script.value(0));
        }
    }

    public int errorPosition() throws NoSuchElementException {
        if (wrongPosition < 0) {
            throw new NoSuchElementException("no script had a wrong form");
        }
        return wrongPosition;
    }

    public int failedCommand() throws NoSuchElementException {
        if (refusedCommand < 0) {
            throw new NoSuchElementException("no script had a failed command");
        }
        return refusedCommand;
    }

    public int undo() throws NoSuchElementException {
        if (history.count <= 0) {
            throw new NoSuchElementException("there is nothing to undo");
        }
        history.pop();
        history.read(town);
        return history.count;
    }

    public int save() {
        snapshot.copyFrom(town);
        saved = true;
        return town.streets.count;
    }

    public int restore() throws IllegalStateException {
        if (!saved) {
            throw new IllegalStateException("there is no snapshot");
        }
        town.copyFrom(snapshot);
        history.count = 0;
        return town.streets.count;
    }

    private static boolean isJunction(int junction) {
        return junction >= 0 && junction < JUNCTIONS;
    }

    /**
     * The streets: each has one place in all of the rows. The count never goes beyond the rows; an index is tested
     * against their length all the same, so that each use of it is seen to be safe where it stands.
     */
    private static final class Streets {
        final int[] lower = new int[MOST_STREETS];
        final int[] higher = new int[MOST_STREETS];
        final char[] kind = new char[MOST_STREETS];
        final int[] size = new int[MOST_STREETS];
        final int[] snow = new int[MOST_STREETS];
        final int[] saltEnd = new int[MOST_STREETS];
        final int[] complained = new int[MOST_STREETS];
        final int[] clearings = new int[MOST_STREETS];
        int count;

        boolean has(int street) {
            return street >= 0 && street < count && street < MOST_STREETS;
        }

        void copyFrom(Streets other) {
            System.arraycopy(other.lower, 0, lower, 0, MOST_STREETS);
            System.arraycopy(other.higher, 0, higher, 0, MOST_STREETS);
            System.arraycopy(other.kind, 0, kind, 0, MOST_STREETS);
            System.arraycopy(other.size, 0, size, 0, MOST_STREETS);
            System.arraycopy(other.snow, 0, snow, 0, MOST_STREETS);
            System.arraycopy(other.saltEnd, 0, saltEnd, 0, MOST_STREETS);
            System.arraycopy(other.complained, 0, complained, 0, MOST_STREETS);
            System.arraycopy(other.clearings, 0, clearings, 0, MOST_STREETS);
            count = other.count;
        }

        boolean areConnected(int low, int high) {
            for (int street = 0; street < count && street < MOST_STREETS; street++) {
                if (lower[street] == low && higher[street] == high) {
                    return true;
                }
            }
            return false;
        }

        /** Adds a street without snow, if there is room, and tells its index. */
        int put(int low, int high, char streetClass, int units) {
            if (count < 0 || count >= MOST_STREETS) {
                return BAD_STATE;
            }
            int street = count;
            lower[street] = low;
            higher[street] = high;
            kind[street] = streetClass;
            size[street] = units;
            snow[street] = 0;
            saltEnd[street] = 0;
            complained[street] = 0;
            clearings[street] = 0;
            count++;
            return street;
        }

        /** Tells the end of a street that is not the given one, or NONE if the given one is no end. */
        int otherEnd(int street, int end) {
            if (street < 0 || street >= MOST_STREETS) {
                return NONE;
            }
            if (lower[street] == end) {
                return higher[street];
            }
            return higher[street] == end ? lower[street] : NONE;
        }

        /** Tells by how much the snow on a street is deeper than the limit of its class; negative below it. */
        int excess(int street) {
            if (!has(street)) {
                return 0;
            }
            int limit = kind[street] == 'a' ? 5 : kind[street] == 'b' ? 10 : 15;
            return snow[street] - limit;
        }

        /** Tells for how many minutes from now a street is salted; not above 0 if it is not. */
        int saltLeft(int street, int now) {
            return has(street) ? saltEnd[street] - now : 0;
        }

        int timesCleared(int street) {
            return has(street) ? clearings[street] : 0;
        }

        int atRank(int rank) {
            for (int street = 0; street < count; street++) {
                if (rankOf(street) == rank) {
                    return street;
                }
            }
            return NONE;
        }

        private int rankOf(int street) {
            int rank = 0;
            for (int other = 0; other < count; other++) {
                if (precedes(other, street)) {
                    rank++;
                }
            }
            return rank;
        }

        private boolean precedes(int one, int other) {
            if (!has(one) || !has(other)) {
                return false;
            }
            if (excess(one) != excess(other)) {
                return excess(one) > excess(other);
            }
            if (kind[one] != kind[other]) {
                return kind[one] < kind[other];
            }
            return one < other;
        }

        int snowSum() {
            int sum = 0;
            for (int street = 0; street < count && street < MOST_STREETS; street++) {
                sum += snow[street];
            }
            return sum;
        }

        int saltedCount(int now) {
            int salted = 0;
            for (int street = 0; street < count; street++) {
                if (saltLeft(street, now) > 0) {
                    salted++;
                }
            }
            return salted;
        }

        int complaintSum() {
            int sum = 0;
            for (int street = 0; street < count && street < MOST_STREETS; street++) {
                sum += complained[street];
            }
            return sum;
        }

        boolean depthsAllowed() {
            for (int street = 0; street < count && street < MOST_STREETS; street++) {
                if (snow[street] < 0 || snow[street] > DEEPEST) {
                    return false;
                }
            }
            return true;
        }

        void fall(int rate) {
            for (int street = 0; street < count && street < MOST_STREETS; street++) {
                snow[street] = Math.min(snow[street] + rate, DEEPEST);
            }
        }

        void melt(int now) {
            for (int street = 0; street < count && street < MOST_STREETS; street++) {
                if (saltEnd[street] > now) {
                    snow[street] = Math.max(snow[street] - SALT_MELTS, 0);
                }
            }
        }

        void drift(int force) {
            if (count < 2 || !has(count - 1)) {
                return;
            }
            int arriving = Math.min(force, snow[count - 1] / 4);
            for (int street = 0; street < count && street < MOST_STREETS; street++) {
                int leaving = Math.min(force, snow[street] / 4);
                snow[street] = Math.min(snow[street] - leaving + arriving, DEEPEST);
                arriving = leaving;
            }
        }

        /** Makes a complaint about each overdue street and tells how many these are. */
        int complain() {
            int overdue = 0;
            for (int street = 0; street < count && street < MOST_STREETS; street++) {
                if (excess(street) > 0) {
                    complained[street]++;
                    overdue++;
                }
            }
            return overdue;
        }
    }

    /** The ploughs: each has one place in the rows, and as many in the row of orders as its queue can take. */
    private static final class Ploughs {
        /** Where a plough is idle, or will be idle again. */
        final int[] place = new int[MOST_PLOUGHS];
        final int[] target = new int[MOST_PLOUGHS];
        final int[] minutesLeft = new int[MOST_PLOUGHS];
        final int[] waiting = new int[MOST_PLOUGHS];
        private final int[] orders = new int[MOST_PLOUGHS * MOST_ORDERS];
        int count;

        boolean has(int plough) {
            return plough >= 0 && plough < count && plough < MOST_PLOUGHS;
        }

        void copyFrom(Ploughs other) {
            System.arraycopy(other.place, 0, place, 0, MOST_PLOUGHS);
            System.arraycopy(other.target, 0, target, 0, MOST_PLOUGHS);
            System.arraycopy(other.minutesLeft, 0, minutesLeft, 0, MOST_PLOUGHS);
            System.arraycopy(other.waiting, 0, waiting, 0, MOST_PLOUGHS);
            System.arraycopy(other.orders, 0, orders, 0, MOST_PLOUGHS * MOST_ORDERS);
            count = other.count;
        }

        /** Adds an idle plough, if there is room, and tells its index. */
        int put(int start) {
            if (count < 0 || count >= MOST_PLOUGHS) {
                return BAD_STATE;
            }
            int plough = count;
            place[plough] = start;
            target[plough] = NONE;
            minutesLeft[plough] = 0;
            waiting[plough] = 0;
            count++;
            return plough;
        }

        /** Tells the street of an order in a queue, or NONE. */
        int waitingAt(int plough, int position) {
            if (!has(plough) || position < 0 || position >= waiting[plough] || position >= MOST_ORDERS) {
                return NONE;
            }
            return orders[plough * MOST_ORDERS + position];
        }

        int append(int plough, int street) {
            if (!has(plough)) {
                return NO_INDEX;
            }
            int position = waiting[plough];
            if (position < 0 || position >= MOST_ORDERS) {
                return BAD_STATE;
            }
            orders[plough * MOST_ORDERS + position] = street;
            waiting[plough]++;
            return waiting[plough];
        }

        int removeLast(int plough) {
            if (!has(plough)) {
                return NO_INDEX;
            }
            int street = waitingAt(plough, waiting[plough] - 1);
            if (street < 0) {
                return NO_ELEMENT;
            }
            waiting[plough]--;
            return street;
        }

        boolean canBegin(int plough) {
            return has(plough) && minutesLeft[plough] == 0 && waiting[plough] > 0;
        }

        /** Takes the first order out of a queue and tells its street, or NONE. */
        int removeFirst(int plough) {
            int street = waitingAt(plough, 0);
            if (!has(plough) || street < 0) {
                return NONE;
            }
            int start = plough * MOST_ORDERS;
            for (int position = 1; position < MOST_ORDERS; position++) {
                orders[start + position - 1] = orders[start + position];
            }
            waiting[plough]--;
            return street;
        }

        void begin(int plough, int street, int minutes, int end) {
            if (has(plough)) {
                target[plough] = street;
                minutesLeft[plough] = minutes;
                place[plough] = end;
            }
        }

        /** Lets one minute of a busy plough pass; tells the street that it clears at the end of it, or NONE. */
        int work(int plough) {
            if (!has(plough) || minutesLeft[plough] <= 0) {
                return NONE;
            }
            minutesLeft[plough]--;
            return minutesLeft[plough] == 0 ? target[plough] : NONE;
        }
    }

    /** The two ways to measure distances; what they leave here lasts until the next measuring. */
    private static final class Paths {
        private final int[] reach = new int[JUNCTIONS];
        private final boolean[] settled = new boolean[JUNCTIONS];
        private final int[] table = new int[JUNCTIONS * JUNCTIONS];

        /** Measures the distances of all junctions from one of them by Dijkstra's algorithm. */
        void measureFrom(int start, Streets streets) {
            for (int junction = 0; junction < JUNCTIONS; junction++) {
                reach[junction] = junction == start ? 0 : NO_PATH;
                settled[junction] = false;
            }
            for (int round = 0; round < JUNCTIONS; round++) {
                int nearest = nearestOpen();
                if (!isJunction(nearest)) {
                    return;
                }
                settled[nearest] = true;
                for (int street = 0; street < streets.count && street < MOST_STREETS; street++) {
                    int end = streets.otherEnd(street, nearest);
                    if (isJunction(end)) {
                        reach[end] = Math.min(reach[end], reach[nearest] + streets.size[street]);
                    }
                }
            }
        }

        private int nearestOpen() {
            int nearest = NONE;
            int best = NO_PATH;
            for (int junction = 0; junction < JUNCTIONS; junction++) {
                if (!settled[junction] && reach[junction] < best) {
                    nearest = junction;
                    best = reach[junction];
                }
            }
            return nearest;
        }

        int reachOf(int junction) {
            return isJunction(junction) ? reach[junction] : NO_PATH;
        }

        /** Measures the distances of all pairs of junctions by Floyd and Warshall's algorithm. */
        void improveAll(Streets streets) {
            for (int first = 0; first < JUNCTIONS; first++) {
                for (int second = 0; second < JUNCTIONS; second++) {
                    table[first * JUNCTIONS + second] = first == second ? 0 : NO_PATH;
                }
            }
            for (int street = 0; street < streets.count && street < MOST_STREETS; street++) {
                link(streets.lower[street], streets.higher[street], streets.size[street]);
            }
            for (int via = 0; via < JUNCTIONS; via++) {
                improveBy(via);
            }
        }

        private void link(int first, int second, int size) {
            if (isJunction(first) && isJunction(second)) {
                table[first * JUNCTIONS + second] = size;
                table[second * JUNCTIONS + first] = size;
            }
        }

        private void improveBy(int via) {
            for (int first = 0; first < JUNCTIONS; first++) {
                for (int second = 0; second < JUNCTIONS; second++) {
                    int detour = between(first, via) + between(via, second);
                    if (detour < between(first, second)) {
                        table[first * JUNCTIONS + second] = detour;
                    }
                }
            }
        }

        int between(int first, int second) {
            return isJunction(first) && isJunction(second) ? table[first * JUNCTIONS + second] : NO_PATH;
        }
    }

    /** All that undo and the snapshot cover. */
    private static final class Town {
        private final Paths paths;
        final Streets streets;
        final Ploughs ploughs;
        int time;
        int store;
        int rate;
        int force;
        int cleared;
        int ploughed;
        int failed;
        int complained;

        Town(Paths paths) {
            this.paths = paths;
            streets = new Streets();
            ploughs = new Ploughs();
        }

        void copyFrom(Town other) {
            streets.copyFrom(other.streets);
            ploughs.copyFrom(other.ploughs);
            time = other.time;
            store = other.store;
            rate = other.rate;
            force = other.force;
            cleared = other.cleared;
            ploughed = other.ploughed;
            failed = other.failed;
            complained = other.complained;
        }

        int putStreet(int first, int second, char streetClass, int units) {
            if (!isJunction(first) || !isJunction(second)) {
                return NO_INDEX;
            }
            if (first == second || streetClass < 'a' || streetClass > 'c' || units < 1 || units > MOST_LENGTH) {
                return BAD_ARGUMENT;
            }
            int low = Math.min(first, second);
            int high = Math.max(first, second);
            if (streets.areConnected(low, high)) {
                return BAD_STATE;
            }
            return streets.put(low, high, streetClass, units);
        }

        int putPlough(int start) {
            return isJunction(start) ? ploughs.put(start) : NO_INDEX;
        }

        int appendOrder(int plough, int street) {
            return streets.has(street) ? ploughs.append(plough, street) : NO_INDEX;
        }

        int removeOrder(int plough) {
            return ploughs.removeLast(plough);
        }

        int spreadSalt(int street) {
            if (!streets.has(street)) {
                return NO_INDEX;
            }
            if (streets.saltLeft(street, time) > 0) {
                return UNSUPPORTED;
            }
            if (store < streets.size[street]) {
                return BAD_STATE;
            }
            store -= streets.size[street];
            streets.saltEnd[street] = time + SALT_LASTS;
            return store;
        }

        int fillStore(int units) {
            if (units < 1 || units > MOST_LOADED) {
                return BAD_ARGUMENT;
            }
            if (store + units > FULL_STORE) {
                return UNSUPPORTED;
            }
            store += units;
            return store;
        }

        int changeRate(int newRate) {
            if (newRate < 0 || newRate > STRONGEST) {
                return BAD_ARGUMENT;
            }
            int previous = rate;
            rate = newRate;
            return previous;
        }

        int changeForce(int newForce) {
            if (newForce < 0 || newForce > STRONGEST) {
                return BAD_ARGUMENT;
            }
            int previous = force;
            force = newForce;
            return previous;
        }

        /** Lets time pass and tells how often streets are cleared. */
        int passMinutes(int minutes) {
            if (minutes < 1 || minutes > MOST_MINUTES) {
                return BAD_ARGUMENT;
            }
            int before = cleared;
            for (int minute = 0; minute < minutes; minute++) {
                time++;
                for (int plough = 0; plough < ploughs.count; plough++) {
                    if (ploughs.canBegin(plough)) {
                        beginOrder(plough);
                    }
                    clearStreet(ploughs.work(plough));
                }
                if (time % HOUR == 0) {
                    endHour();
                }
            }
            return cleared - before;
        }

        private void beginOrder(int plough) {
            int street = ploughs.removeFirst(plough);
            int minutes = minutesFor(plough, street);
            if (minutes >= NO_PATH || !streets.has(street)) {
                failed++;
                return;
            }
            int low = streets.lower[street];
            int high = streets.higher[street];
            boolean startsLow = paths.reachOf(low) <= paths.reachOf(high);
            ploughs.begin(plough, street, minutes, startsLow ? high : low);
        }

        /** Tells the minutes of an order, or NO_PATH, and leaves the distances from the plough in the paths. */
        int minutesFor(int plough, int street) {
            if (!ploughs.has(plough) || !streets.has(street)) {
                return NO_PATH;
            }
            paths.measureFrom(ploughs.place[plough], streets);
            int drive = Math.min(paths.reachOf(streets.lower[street]), paths.reachOf(streets.higher[street]));
            if (drive >= NO_PATH) {
                return NO_PATH;
            }
            return DRIVING_MINUTES * drive + PLOUGHING_MINUTES * streets.size[street];
        }

        private void clearStreet(int street) {
            if (streets.has(street)) {
                ploughed += streets.snow[street];
                cleared++;
                streets.snow[street] = 0;
                streets.clearings[street]++;
            }
        }

        private void endHour() {
            streets.fall(rate);
            streets.melt(time);
            streets.drift(force);
            complained += streets.complain();
        }
    }

    /**
     * The towns before the latest changes, in a ring. One place more than changes can be undone is always free:
     * there the town is written before it is known whether a change will be refused.
     */
    private static final class History {
        private static final int PLACES = MOST_UNDONE + 1;

        private final Town[] ring;
        private int free;
        int count;

        History(Paths paths) {
            ring = new Town[PLACES];
            for (int place = 0; place < PLACES; place++) {
                ring[place] = new Town(paths);
            }
        }

        /** Copies a town into the free place. */
        void write(Town town) {
            Town place = freePlace();
            if (place != null) {
                place.copyFrom(town);
            }
        }

        /** Copies the free place into a town. */
        void read(Town town) {
            Town place = freePlace();
            if (place != null) {
                town.copyFrom(place);
            }
        }

        private Town freePlace() {
            return free >= 0 && free < PLACES ? ring[free] : null;
        }

        /** Keeps what was written last; the place of the oldest becomes free if there are too many. */
        void push() {
            free = (free + 1) % PLACES;
            count = Math.min(count + 1, MOST_UNDONE);
        }

        /** Makes the place of the latest change the free one, where it can be read. */
        void pop() {
            free = (free + PLACES - 1) % PLACES;
            count--;
        }
    }

    /** The script buffer and a reader of the commands in it. */
    private static final class Script {
        static final int STREET = 0;
        static final int PLOUGH = 1;
        static final int ORDER = 2;
        static final int CANCEL = 3;
        static final int SALT = 4;
        static final int LOAD = 5;
        static final int SNOW = 6;
        static final int WIND = 7;
        static final int WAIT = 8;
        private static final int MOST_VALUES = 4;
        private static final int MOST_DIGITS = 3;

        final StringBuilder text = new StringBuilder();
        private final int[] values = new int[MOST_VALUES];
        int at;
        int verb;

        /** The form of a command: # stands for a digit, @ for a class, and % at its end for a number. */
        private static String formOf(int verb) {
            switch (verb) {
                case STREET:
                    return "street # # @#";
                case PLOUGH:
                    return "plough #";
                case ORDER:
                    return "order # %";
                case CANCEL:
                    return "cancel #";
                case SALT:
                    return "salt %";
                case LOAD:
                    return "load %";
                case SNOW:
                    return "snow #";
                case WIND:
                    return "wind #";
                default:
                    return "wait %";
            }
        }

        /** Tells the number of commands, or NONE if the form is wrong; then the reader is at the error position. */
        int countCommands() {
            at = 0;
            for (int commands = 1; commands <= MOST_TYPED; commands++) {
                if (!readCommand()) {
                    return NONE;
                }
                if (at >= text.length()) {
                    return commands;
                }
                if (signAt(at) != ';') {
                    return NONE;
                }
                at++;
            }
            return NONE;
        }

        /** Reads the command at the reader and goes past the semicolon behind it. */
        void readNext() {
            readCommand();
            at++;
        }

        /**
         * Reads the command at the reader and goes past it. If there is none, the reader goes to the first sign
         * that continues no command: as far as the form that fits best.
         */
        private boolean readCommand() {
            int best = 0;
            for (int candidate = STREET; candidate <= WAIT; candidate++) {
                String form = formOf(candidate);
                int fitting = fittingSigns(form);
                if (fitting == form.length()) {
                    verb = candidate;
                    readValues(form);
                    return true;
                }
                best = Math.max(best, fitting);
            }
            at += best;
            return false;
        }

        private int fittingSigns(String form) {
            for (int sign = 0; sign < form.length(); sign++) {
                if (!fits(form.charAt(sign), signAt(at + sign))) {
                    return sign;
                }
            }
            return form.length();
        }

        private static boolean fits(char wanted, char sign) {
            if (wanted == '#' || wanted == '%') {
                return isDigit(sign);
            }
            if (wanted == '@') {
                return sign >= 'a' && sign <= 'c';
            }
            return sign == wanted;
        }

        private static boolean isDigit(char sign) {
            return sign >= '0' && sign <= '9';
        }

        /** Behind the end of the text stands a sign that cannot be typed and therefore fits nothing. */
        private char signAt(int index) {
            return index >= 0 && index < text.length() ? text.charAt(index) : (char) 0;
        }

        private void readValues(String form) {
            int found = 0;
            for (int sign = 0; sign < form.length() && found < MOST_VALUES; sign++) {
                char wanted = form.charAt(sign);
                if (wanted == '@') {
                    values[found] = signAt(at);
                    found++;
                } else if (wanted == '#') {
                    values[found] = signAt(at) - '0';
                    found++;
                } else if (wanted == '%') {
                    values[found] = readNumber();
                    return;
                }
                at++;
            }
        }

        private int readNumber() {
            int number = 0;
            for (int digits = 0; digits < MOST_DIGITS && isDigit(signAt(at)); digits++) {
                number = number * 10 + signAt(at) - '0';
                at++;
            }
            return number;
        }

        int value(int place) {
            return place >= 0 && place < MOST_VALUES ? values[place] : 0;
        }
    }
}
