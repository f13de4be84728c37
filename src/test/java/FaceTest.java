import java.io.IOException;
import java.lang.reflect.Constructor;
import java.lang.reflect.Field;
import java.lang.reflect.Member;
import java.lang.reflect.Method;
import java.lang.reflect.Modifier;
import java.nio.file.Files;
import java.nio.file.Path;
import java.util.ArrayList;
import java.util.List;
import java.util.Set;
import java.util.TreeSet;
import java.util.regex.Matcher;
import java.util.regex.Pattern;

/** The face of the class: what the document names is public, and nothing else can be reached. */
public final class FaceTest {
    private static final String FACE = """
        public SnowDispatcher();
        public int addStreet(int first, int second, char streetClass, int length)
            throws IndexOutOfBoundsException, IllegalArgumentException, IllegalStateException;
        public int addPlough(int junction) throws IndexOutOfBoundsException, IllegalStateException;
        public int order(int plough, int street) throws IndexOutOfBoundsException, IllegalStateException;
        public int cancelOrder(int plough) throws IndexOutOfBoundsException, NoSuchElementException;
        public int salt(int street)
            throws IndexOutOfBoundsException, UnsupportedOperationException, IllegalStateException;
        public int loadSalt(int units) throws IllegalArgumentException, UnsupportedOperationException;
        public int setSnowfall(int rate) throws IllegalArgumentException;
        public int setWind(int force) throws IllegalArgumentException;
        public int advance(int minutes) throws IllegalArgumentException;
        public int streetCount();
        public int lowerEnd(int street) throws IndexOutOfBoundsException;
        public int higherEnd(int street) throws IndexOutOfBoundsException;
        public char streetClass(int street) throws IndexOutOfBoundsException;
        public int length(int street) throws IndexOutOfBoundsException;
        public int depth(int street) throws IndexOutOfBoundsException;
        public boolean isOverdue(int street) throws IndexOutOfBoundsException;
        public boolean isSalted(int street) throws IndexOutOfBoundsException;
        public int saltMinutes(int street) throws IndexOutOfBoundsException, NoSuchElementException;
        public int complaints(int street) throws IndexOutOfBoundsException;
        public int distance(int first, int second) throws IndexOutOfBoundsException, NoSuchElementException;
        public int distanceByJunctions(int first, int second) throws IndexOutOfBoundsException, NoSuchElementException;
        public int streetByUrgency(int rank) throws NoSuchElementException;
        public int ploughCount();
        public boolean isBusy(int plough) throws IndexOutOfBoundsException;
        public int junction(int plough) throws IndexOutOfBoundsException;
        public int currentStreet(int plough) throws IndexOutOfBoundsException, NoSuchElementException;
        public int busyMinutes(int plough) throws IndexOutOfBoundsException;
        public int queueLength(int plough) throws IndexOutOfBoundsException;
        public int queuedStreet(int plough, int position) throws IndexOutOfBoundsException, NoSuchElementException;
        public int orderMinutes(int plough, int street) throws IndexOutOfBoundsException, NoSuchElementException;
        public int minutesUntilCleared(int street) throws IndexOutOfBoundsException, NoSuchElementException;
        public int depthAfter(int street, int minutes) throws IndexOutOfBoundsException, IllegalArgumentException;
        public int time();
        public int saltStore();
        public int snowfall();
        public int wind();
        public int clearedTotal();
        public int ploughedTotal();
        public int failedOrders();
        public int complaintTotal();
        public double meanDepth() throws ArithmeticException;
        public float saltedShare() throws ArithmeticException;
        public boolean isConsistent();
        public int renderStreet(int street) throws IndexOutOfBoundsException;
        public int renderQueue(int plough) throws IndexOutOfBoundsException;
        public char outputAt(int index) throws IndexOutOfBoundsException;
        public int type(char character) throws IllegalArgumentException, IllegalStateException;
        public int runScript() throws IllegalArgumentException, IllegalStateException;
        public int errorPosition() throws NoSuchElementException;
        public int failedCommand() throws NoSuchElementException;
        public int undo() throws NoSuchElementException;
        public int save();
        public int restore() throws IllegalStateException;
        """;

    /** A public constructor or method, up to its semicolon here and up to its body in the source. */
    private static final Pattern DECLARATION = Pattern.compile("\\n *(public [^;{=]*\\([^;{]*)[;{]");

    public static void main(String[] args) throws IOException {
        List<String> due = declarations("\n" + FACE);
        Check.is("number of calls", 54, due.size());
        Check.is("declarations", due, declarations(Files.readString(Path.of("src/main/java/SnowDispatcher.java"))));
        nothingElseIsOpen(due);
        for (Class<?> inner : SnowDispatcher.class.getDeclaredClasses()) {
            Check.is("static " + inner.getName(), true, Modifier.isStatic(inner.getModifiers()));
            noSharedState(inner);
            noFaceName(inner.getDeclaredMethods());
        }
        Check.end();
    }

    private static void nothingElseIsOpen(List<String> declarations) {
        Set<String> due = new TreeSet<>();
        for (String declaration : declarations) {
            due.add(withoutNames(declaration));
        }
        Set<String> got = new TreeSet<>();
        for (Method method : SnowDispatcher.class.getDeclaredMethods()) {
            if (isOpen(method)) {
                got.add(described(method));
            } else {
                noFaceName(method);
            }
        }
        for (Constructor<?> constructor : SnowDispatcher.class.getDeclaredConstructors()) {
            got.add(constructor.toString());
        }
        Check.is("face", due, got);
        Check.is("class", Modifier.PUBLIC | Modifier.FINAL, SnowDispatcher.class.getModifiers());
        for (Field field : SnowDispatcher.class.getDeclaredFields()) {
            Check.is("private field " + field.getName(), false, isOpen(field));
        }
        noSharedState(SnowDispatcher.class);
    }

    /** No method that is not of the face bears the name of one that is. */
    private static void noFaceName(Method... methods) {
        for (Method method : methods) {
            Check.is("name " + method, false, FACE.contains(" " + method.getName() + "("));
        }
    }

    private static List<String> declarations(String source) {
        List<String> found = new ArrayList<>();
        Matcher matcher = DECLARATION.matcher(source);
        while (matcher.find()) {
            found.add(matcher.group(1).trim().replaceAll("\\s+", " "));
        }
        return found;
    }

    private static boolean isOpen(Member member) {
        return !Modifier.isPrivate(member.getModifiers()) && !member.isSynthetic();
    }

    private static String described(Method method) {
        StringBuilder text = new StringBuilder(Modifier.toString(method.getModifiers())).append(' ');
        text.append(method.getReturnType().getName()).append(' ').append(method.getName()).append('(');
        String comma = "";
        for (Class<?> parameter : method.getParameterTypes()) {
            text.append(comma).append(parameter.getName());
            comma = ",";
        }
        return text.append(')').toString();
    }

    /** A declaration with the types of its arguments alone, and without its exceptions. */
    private static String withoutNames(String declaration) {
        return declaration.replaceAll(" throws .*", "").replaceAll("(\\w+) \\w+([,)])", "$1$2").replace(", ", ",");
    }

    private static void noSharedState(Class<?> owner) {
        for (Field field : owner.getDeclaredFields()) {
            if (Modifier.isStatic(field.getModifiers()) && !field.isSynthetic()) {
                Check.is("constant " + field, true,
                        Modifier.isFinal(field.getModifiers()) && field.getType().isPrimitive());
            }
        }
    }
}
