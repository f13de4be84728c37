import java.lang.reflect.InvocationTargetException;
import java.lang.reflect.Method;
import java.util.HashMap;
import java.util.Map;
import java.util.Random;

/** Compares random runs of at most 512 calls with the model; the seeds are fixed, so the runs are always the same. */
public final class ModelTest {
    private static final int RUNS = 2000;
    private static final int CALLS = 512;
    private static final int[] WILD = {-1, Integer.MIN_VALUE, Integer.MAX_VALUE, 8, 12, 13, 100, -13};
    private static final String[] CHANGES = {
        "addStreet", "addPlough", "order", "order", "order", "cancelOrder", "salt", "loadSalt", "setSnowfall",
        "setWind", "advance", "advance", "advance", "undo", "save", "restore",
    };
    private static final String[] QUESTIONS = {
        "streetCount", "lowerEnd", "higherEnd", "streetClass", "length", "depth", "depth", "isOverdue", "isSalted",
        "saltMinutes", "complaints", "distance", "distanceByJunctions", "streetByUrgency", "ploughCount", "isBusy",
        "junction", "currentStreet", "busyMinutes", "queueLength", "queuedStreet", "orderMinutes",
        "minutesUntilCleared", "depthAfter", "time", "saltStore", "snowfall", "wind", "clearedTotal",
        "ploughedTotal", "failedOrders", "complaintTotal", "meanDepth", "saltedShare", "isConsistent",
        "renderStreet", "renderQueue", "outputAt", "errorPosition", "failedCommand",
    };
    private static final Map<String, Method> METHODS = new HashMap<>();

    private final Random random;
    private final int run;
    private final SnowDispatcher dispatcher = new SnowDispatcher();
    private final Model model = new Model();
    private int calls;

    private ModelTest(int run) {
        this.run = run;
        random = new Random(run);
    }

    public static void main(String[] args) {
        for (Method method : SnowDispatcher.class.getMethods()) {
            METHODS.put(method.getName(), method);
        }
        for (int run = 0; run < RUNS; run++) {
            new ModelTest(run).compare();
        }
        Check.end();
    }

    private void compare() {
        boolean calm = random.nextBoolean();
        while (calls < CALLS) {
            int kind = random.nextInt(calm ? 100 : 40);
            if (kind < 4) {
                script();
            } else if (kind < 20 || calls < 12) {
                both(CHANGES[random.nextInt(CHANGES.length)]);
            } else {
                both(QUESTIONS[random.nextInt(QUESTIONS.length)]);
            }
        }
    }

    private void both(String name) {
        both(name, arguments(name));
    }

    private void both(String name, int... arguments) {
        if (calls >= CALLS) {
            return;
        }
        calls++;
        Object due = Check.outcome(() -> model.call(name, arguments));
        Object got = Check.outcome(() -> real(name, arguments));
        Check.is("run " + run + ", call " + calls + ", " + name + java.util.Arrays.toString(arguments), due, got);
    }

    private Object real(String name, int[] numbers) {
        Method method = METHODS.get(name);
        Object[] arguments = new Object[method.getParameterCount()];
        for (int i = 0; i < arguments.length; i++) {
            boolean isChar = method.getParameterTypes()[i] == char.class;
            arguments[i] = isChar ? (Object) (char) numbers[i] : (Object) numbers[i];
        }
        try {
            return method.invoke(dispatcher, arguments);
        } catch (InvocationTargetException e) {
            if (e.getCause() instanceof RuntimeException) {
                throw (RuntimeException) e.getCause();
            }
            throw new IllegalStateException(e.getCause().toString());
        } catch (IllegalAccessException e) {
            throw new AssertionError(e);
        }
    }

    private int[] arguments(String name) {
        return switch (name) {
            case "addStreet" -> new int[] {near(8), near(8),
                'a' + (rarely() ? 3 - random.nextInt(5) : random.nextInt(3)), near(9) + (rarely() ? 0 : 1)};
            case "addPlough" -> new int[] {near(8)};
            case "distance", "distanceByJunctions" -> new int[] {near(8), near(8)};
            case "order", "orderMinutes" -> new int[] {near(ploughs()), near(streets())};
            case "queuedStreet" -> new int[] {near(ploughs()), near(5)};
            case "cancelOrder", "isBusy", "junction", "currentStreet", "busyMinutes", "queueLength", "renderQueue" ->
                new int[] {near(ploughs())};
            case "loadSalt" -> new int[] {near(201)};
            case "setSnowfall", "setWind" -> new int[] {near(10)};
            case "advance" -> new int[] {minutes()};
            case "depthAfter" -> new int[] {near(streets()), minutes()};
            case "outputAt" -> new int[] {near(14)};
            default -> new int[] {near(streets())};
        };
    }

    private int minutes() {
        return switch (random.nextInt(5)) {
            case 0 -> near(601);
            case 1 -> 60 - Math.floorMod((Integer) model.call("time"), 60);
            case 2 -> 600 + random.nextInt(2);
            default -> near(20);
        };
    }

    private int streets() {
        return (Integer) model.call("streetCount");
    }

    private int ploughs() {
        return (Integer) model.call("ploughCount");
    }

    private boolean rarely() {
        return random.nextInt(20) == 0;
    }

    private int near(int count) {
        if (rarely()) {
            return random.nextBoolean() ? count : WILD[random.nextInt(WILD.length)];
        }
        return count == 0 ? 0 : random.nextInt(count);
    }

    private void script() {
        StringBuilder text = new StringBuilder();
        int commands = 1 + random.nextInt(5);
        for (int i = 0; i < commands; i++) {
            text.append(i == 0 ? "" : ";").append(command());
        }
        if (random.nextInt(3) == 0) {
            spoil(text);
        }
        for (int i = 0; i < text.length(); i++) {
            both("type", text.charAt(i));
        }
        both("runScript");
        both(random.nextBoolean() ? "errorPosition" : "failedCommand");
    }

    private void spoil(StringBuilder text) {
        int at = random.nextInt(text.length() + 1);
        String signs = "0123456789abcd;; streploughcanlswim\u007f~A\u001f";
        char sign = signs.charAt(random.nextInt(signs.length()));
        switch (random.nextInt(3)) {
            case 0 -> text.insert(at, sign);
            case 1 -> text.setLength(at);
            default -> text.replace(at, at + 1, String.valueOf(sign));
        }
    }

    private String command() {
        int ploughs = Math.max(1, ploughs());
        int streets = Math.max(1, streets());
        return switch (random.nextInt(9)) {
            case 0 -> "street " + random.nextInt(8) + " " + random.nextInt(8) + " " + (char) ('a' + random.nextInt(3))
                    + random.nextInt(10);
            case 1 -> "plough " + random.nextInt(9);
            case 2 -> "order " + random.nextInt(ploughs) + " " + number(random.nextInt(streets));
            case 3 -> "cancel " + random.nextInt(ploughs);
            case 4 -> "salt " + number(random.nextInt(streets));
            case 5 -> "load " + number(random.nextInt(210));
            case 6 -> "snow " + random.nextInt(10);
            case 7 -> "wind " + random.nextInt(10);
            default -> "wait " + number(random.nextInt(rarely() ? 999 : 300));
        };
    }

    private String number(int value) {
        String text = String.valueOf(value);
        return rarely() && text.length() < 3 ? "0" + text : text;
    }
}
