import java.util.ArrayDeque;
import java.util.ArrayList;
import java.util.Comparator;
import java.util.Deque;
import java.util.List;
import java.util.NoSuchElementException;
import java.util.regex.Matcher;
import java.util.regex.Pattern;

/** A second program of the same document, plain and slow, with the Java library at hand. */
final class Model {
    private static final class Street {
        int low;
        int high;
        char kind;
        int length;
        int depth;
        Integer saltedAt;
        int complaints;

        int limit() {
            return switch (kind) {
                case 'a' -> 5;
                case 'b' -> 10;
                default -> 15;
            };
        }

        Street copy() {
            Street s = new Street();
            s.low = low;
            s.high = high;
            s.kind = kind;
            s.length = length;
            s.depth = depth;
            s.saltedAt = saltedAt;
            s.complaints = complaints;
            return s;
        }
    }

    private static final class Plough {
        int junction;
        Integer street;
        int busy;
        List<Integer> queue = new ArrayList<>();

        Plough copy() {
            Plough p = new Plough();
            p.junction = junction;
            p.street = street;
            p.busy = busy;
            p.queue = new ArrayList<>(queue);
            return p;
        }
    }

    private static final class State {
        List<Street> streets = new ArrayList<>();
        List<Plough> ploughs = new ArrayList<>();
        int time;
        int store;
        int snow;
        int wind;
        int ploughed;
        int failed;
        List<Integer> cleared = new ArrayList<>();

        State copy() {
            State s = new State();
            streets.forEach(street -> s.streets.add(street.copy()));
            ploughs.forEach(plough -> s.ploughs.add(plough.copy()));
            s.time = time;
            s.store = store;
            s.snow = snow;
            s.wind = wind;
            s.ploughed = ploughed;
            s.failed = failed;
            s.cleared = new ArrayList<>(cleared);
            return s;
        }
    }

    private static final String COMMAND = "(?:street [0-9] [0-9] [abc][0-9]|plough [0-9]|order [0-9] [0-9]{1,3}"
            + "|cancel [0-9]|salt [0-9]{1,3}|load [0-9]{1,3}|(?:snow|wind) [0-9]|wait [0-9]{1,3})";
    private static final Pattern SCRIPT = Pattern.compile(COMMAND + "(?:;" + COMMAND + ")*");

    private State s = new State();
    private State snapshot;
    private final Deque<State> past = new ArrayDeque<>();
    private String script = "";
    private String output = "";
    private Integer errorPosition;
    private Integer failedCommand;

    private interface Change {
        Object make();
    }

    private Object changed(Change change) {
        State before = s.copy();
        Object answer = change.make();
        past.push(before);
        if (past.size() > 8) {
            past.removeLast();
        }
        return answer;
    }

    private static void index(boolean fine) {
        if (!fine) {
            throw new IndexOutOfBoundsException();
        }
    }

    private static void argument(boolean fine) {
        if (!fine) {
            throw new IllegalArgumentException();
        }
    }

    private static void state(boolean fine) {
        if (!fine) {
            throw new IllegalStateException();
        }
    }

    private static void element(boolean fine) {
        if (!fine) {
            throw new NoSuchElementException();
        }
    }

    private static void supported(boolean fine) {
        if (!fine) {
            throw new UnsupportedOperationException();
        }
    }

    private static void junctions(int... all) {
        for (int junction : all) {
            index(0 <= junction && junction <= 7);
        }
    }

    private Street street(int i) {
        index(0 <= i && i < s.streets.size());
        return s.streets.get(i);
    }

    private Plough plough(int i) {
        index(0 <= i && i < s.ploughs.size());
        return s.ploughs.get(i);
    }

    private boolean salted(Street street) {
        return street.saltedAt != null && s.time - street.saltedAt < 240;
    }

    private Object make(String name, int[] a) {
        switch (name) {
            case "addStreet":
                junctions(a[0], a[1]);
                argument(a[0] != a[1] && "abc".indexOf(a[2]) >= 0 && 1 <= a[3] && a[3] <= 9);
                Street added = new Street();
                added.low = Math.min(a[0], a[1]);
                added.high = Math.max(a[0], a[1]);
                state(s.streets.size() < 12
                        && s.streets.stream().noneMatch(x -> x.low == added.low && x.high == added.high));
                added.kind = (char) a[2];
                added.length = a[3];
                s.streets.add(added);
                return s.streets.size() - 1;
            case "addPlough":
                junctions(a[0]);
                state(s.ploughs.size() < 4);
                Plough plough = new Plough();
                plough.junction = a[0];
                s.ploughs.add(plough);
                return s.ploughs.size() - 1;
            case "order":
                plough(a[0]);
                street(a[1]);
                state(plough(a[0]).queue.size() < 5);
                plough(a[0]).queue.add(a[1]);
                return plough(a[0]).queue.size();
            case "cancelOrder":
                element(!plough(a[0]).queue.isEmpty());
                return plough(a[0]).queue.remove(plough(a[0]).queue.size() - 1);
            case "salt":
                supported(!salted(street(a[0])));
                state(s.store >= street(a[0]).length);
                street(a[0]).saltedAt = s.time;
                s.store -= street(a[0]).length;
                return s.store;
            case "loadSalt":
                argument(1 <= a[0] && a[0] <= 200);
                supported(s.store + a[0] <= 500);
                s.store += a[0];
                return s.store;
            case "setSnowfall":
                argument(0 <= a[0] && a[0] <= 9);
                int rate = s.snow;
                s.snow = a[0];
                return rate;
            case "setWind":
                argument(0 <= a[0] && a[0] <= 9);
                int force = s.wind;
                s.wind = a[0];
                return force;
            case "advance":
                argument(1 <= a[0] && a[0] <= 600);
                int before = s.cleared.size();
                for (int i = 0; i < a[0]; i++) {
                    minute();
                }
                return s.cleared.size() - before;
            default:
                throw new AssertionError(name);
        }
    }

    private void minute() {
        s.time++;
        for (Plough plough : s.ploughs) {
            if (plough.street == null && !plough.queue.isEmpty()) {
                begin(plough, plough.queue.remove(0));
            }
            if (plough.street != null && --plough.busy == 0) {
                s.ploughed += street(plough.street).depth;
                s.cleared.add(plough.street);
                street(plough.street).depth = 0;
                plough.street = null;
            }
        }
        if (s.time % 60 == 0) {
            hour();
        }
    }

    private void begin(Plough plough, int order) {
        Street street = street(order);
        Integer low = path(plough.junction, street.low, 0);
        Integer high = path(plough.junction, street.high, 0);
        if (low == null || high == null) {
            s.failed++;
            return;
        }
        plough.street = order;
        plough.busy = 2 * Math.min(low, high) + 4 * street.length;
        plough.junction = high < low ? street.low : street.high;
    }

    private void hour() {
        for (Street street : s.streets) {
            street.depth = Math.min(200, street.depth + s.snow);
            if (salted(street)) {
                street.depth = Math.max(0, street.depth - 3);
            }
        }
        int n = s.streets.size();
        if (n >= 2) {
            int[] after = new int[n];
            for (int i = 0; i < n; i++) {
                int gone = Math.min(s.wind, s.streets.get(i).depth / 4);
                after[i] += s.streets.get(i).depth - gone;
                after[(i + 1) % n] += gone;
            }
            for (int i = 0; i < n; i++) {
                s.streets.get(i).depth = Math.min(200, after[i]);
            }
        }
        for (Street street : s.streets) {
            if (street.depth > street.limit()) {
                street.complaints++;
            }
        }
    }

    /** The length of a shortest path that passes none of the junctions seen, by trying all of them; or null. */
    private Integer path(int from, int to, int seen) {
        if (from == to) {
            return 0;
        }
        Integer best = null;
        for (Street street : s.streets) {
            int next = street.low == from ? street.high : street.high == from ? street.low : -1;
            if (next >= 0 && (seen & 1 << next) == 0) {
                Integer rest = path(next, to, seen | 1 << from);
                if (rest != null && (best == null || rest + street.length < best)) {
                    best = rest + street.length;
                }
            }
        }
        return best;
    }

    Object call(String name, int... a) {
        switch (name) {
            case "addStreet", "addPlough", "order", "cancelOrder", "salt", "loadSalt", "setSnowfall", "setWind",
                    "advance":
                return changed(() -> make(name, a));
            case "type":
                argument(32 <= a[0] && a[0] <= 126);
                state(script.length() < 60);
                script += (char) a[0];
                return script.length();
            case "runScript":
                return runScript();
            case "undo":
                element(!past.isEmpty());
                s = past.pop();
                return past.size();
            case "save":
                snapshot = s.copy();
                return s.streets.size();
            case "restore":
                state(snapshot != null);
                s = snapshot.copy();
                past.clear();
                return s.streets.size();
            default:
                return asked(name, a);
        }
    }

    private Object asked(String name, int[] a) {
        return switch (name) {
            case "streetCount" -> s.streets.size();
            case "lowerEnd" -> street(a[0]).low;
            case "higherEnd" -> street(a[0]).high;
            case "streetClass" -> street(a[0]).kind;
            case "length" -> street(a[0]).length;
            case "depth" -> street(a[0]).depth;
            case "isOverdue" -> street(a[0]).depth > street(a[0]).limit();
            case "isSalted" -> salted(street(a[0]));
            case "saltMinutes" -> saltMinutes(street(a[0]));
            case "complaints" -> street(a[0]).complaints;
            case "distance", "distanceByJunctions" -> distance(a[0], a[1]);
            case "streetByUrgency" -> ranked(a[0]);
            case "ploughCount" -> s.ploughs.size();
            case "isBusy" -> plough(a[0]).street != null;
            case "junction" -> plough(a[0]).junction;
            case "currentStreet" -> present(plough(a[0]).street);
            case "busyMinutes" -> plough(a[0]).busy;
            case "queueLength" -> plough(a[0]).queue.size();
            case "queuedStreet" -> queued(plough(a[0]).queue, a[1]);
            case "orderMinutes" -> orderMinutes(plough(a[0]), street(a[1]));
            case "minutesUntilCleared" -> untilCleared(a[0]);
            case "depthAfter" -> depthAfter(a[0], a[1]);
            case "time" -> s.time;
            case "saltStore" -> s.store;
            case "snowfall" -> s.snow;
            case "wind" -> s.wind;
            case "clearedTotal" -> s.cleared.size();
            case "ploughedTotal" -> s.ploughed;
            case "failedOrders" -> s.failed;
            case "complaintTotal" -> s.streets.stream().mapToInt(x -> x.complaints).sum();
            case "meanDepth" -> meanDepth();
            case "saltedShare" -> saltedShare();
            case "isConsistent" -> true;
            case "renderStreet" -> rendered(streetText(a[0]));
            case "renderQueue" -> rendered(plough(a[0]).queue.toString().replaceAll("[\\[\\] ]", ""));
            case "outputAt" -> outputAt(a[0]);
            case "errorPosition" -> present(errorPosition);
            case "failedCommand" -> present(failedCommand);
            default -> throw new AssertionError(name);
        };
    }

    private static Object present(Object value) {
        element(value != null);
        return value;
    }

    private Object saltMinutes(Street street) {
        element(salted(street));
        return street.saltedAt + 240 - s.time;
    }

    private Object distance(int first, int second) {
        junctions(first, second);
        return present(path(first, second, 0));
    }

    private Object ranked(int rank) {
        List<Integer> order = new ArrayList<>();
        for (int i = 0; i < s.streets.size(); i++) {
            order.add(i);
        }
        order.sort(Comparator.<Integer>comparingInt(i -> s.streets.get(i).limit() - s.streets.get(i).depth)
                .thenComparing(i -> s.streets.get(i).kind).thenComparing(Comparator.naturalOrder()));
        element(0 <= rank && rank < order.size());
        return order.get(rank);
    }

    private static Object queued(List<Integer> queue, int position) {
        element(0 <= position && position < queue.size());
        return queue.get(position);
    }

    private Object orderMinutes(Plough plough, Street street) {
        Integer low = path(plough.junction, street.low, 0);
        Integer high = path(plough.junction, street.high, 0);
        element(low != null && high != null);
        return 2 * Math.min(low, high) + 4 * street.length;
    }

    private Object untilCleared(int i) {
        street(i);
        State present = s;
        s = present.copy();
        s.cleared.clear();
        int minutes = 0;
        while (minutes < 600 && !s.cleared.contains(i)) {
            minute();
            minutes++;
        }
        boolean found = s.cleared.contains(i);
        s = present;
        element(found);
        return minutes;
    }

    private Object depthAfter(int i, int minutes) {
        street(i);
        argument(0 <= minutes && minutes <= 600);
        State present = s;
        s = present.copy();
        for (int minute = 0; minute < minutes; minute++) {
            minute();
        }
        int depth = street(i).depth;
        s = present;
        return depth;
    }

    private Object meanDepth() {
        if (s.streets.isEmpty()) {
            throw new ArithmeticException();
        }
        return (double) s.streets.stream().mapToInt(x -> x.depth).sum() / (double) s.streets.size();
    }

    private Object saltedShare() {
        if (s.streets.isEmpty()) {
            throw new ArithmeticException();
        }
        return (float) s.streets.stream().filter(this::salted).count() / (float) s.streets.size();
    }

    private String streetText(int i) {
        Street x = street(i);
        return i + ":" + x.low + "-" + x.high + x.kind + x.depth + "cm" + (salted(x) ? "*" : "");
    }

    private Object rendered(String text) {
        output = text;
        return text.length();
    }

    private Object outputAt(int i) {
        index(0 <= i && i < output.length());
        return output.charAt(i);
    }

    private Object runScript() {
        String text = script;
        script = "";
        if (!SCRIPT.matcher(text).matches()) {
            errorPosition = continued(text);
            throw new IllegalArgumentException();
        }
        State before = s.copy();
        String[] commands = text.split(";");
        for (int i = 0; i < commands.length; i++) {
            try {
                obey(commands[i].split(" "));
            } catch (RuntimeException e) {
                s = before;
                failedCommand = i;
                throw new IllegalStateException();
            }
        }
        return changed(() -> commands.length, before);
    }

    private Object changed(Change change, State before) {
        State after = s;
        s = before;
        Object answer = changed(change);
        s = after;
        return answer;
    }

    /** The length of the longest beginning that a script of the right form can have. */
    private static int continued(String text) {
        for (int length = text.length(); length > 0; length--) {
            Matcher matcher = SCRIPT.matcher(text.substring(0, length));
            if (matcher.matches() || matcher.hitEnd()) {
                return length;
            }
        }
        return 0;
    }

    private void obey(String[] words) {
        int[] numbers = new int[4];
        for (int i = 1; i < words.length && !words[0].equals("street"); i++) {
            numbers[i - 1] = Integer.parseInt(words[i]);
        }
        switch (words[0]) {
            case "street" -> make("addStreet", new int[] {Integer.parseInt(words[1]), Integer.parseInt(words[2]),
                words[3].charAt(0), Integer.parseInt(words[3].substring(1))});
            case "plough" -> make("addPlough", numbers);
            case "cancel" -> make("cancelOrder", numbers);
            case "load" -> make("loadSalt", numbers);
            case "snow" -> make("setSnowfall", numbers);
            case "wind" -> make("setWind", numbers);
            case "wait" -> make("advance", numbers);
            default -> make(words[0], numbers);
        }
    }
}
