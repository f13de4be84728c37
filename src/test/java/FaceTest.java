import java.lang.reflect.Constructor;
import java.lang.reflect.Field;
import java.lang.reflect.Member;
import java.lang.reflect.Method;
import java.lang.reflect.Modifier;
import java.util.Set;
import java.util.TreeSet;

/** The face of the class: what the document names is public, and nothing else can be reached. */
public final class FaceTest {
    private static final String[] FACE = {
        "int addStreet(int,int,char,int)", "int addPlough(int)", "int order(int,int)", "int cancelOrder(int)",
        "int salt(int)", "int loadSalt(int)", "int setSnowfall(int)", "int setWind(int)", "int advance(int)",
        "int streetCount()", "int lowerEnd(int)", "int higherEnd(int)", "char streetClass(int)", "int length(int)",
        "int depth(int)", "boolean isOverdue(int)", "boolean isSalted(int)", "int saltMinutes(int)",
        "int complaints(int)", "int distance(int,int)", "int distanceByJunctions(int,int)",
        "int streetByUrgency(int)", "int ploughCount()", "boolean isBusy(int)", "int junction(int)",
        "int currentStreet(int)", "int busyMinutes(int)", "int queueLength(int)", "int queuedStreet(int,int)",
        "int orderMinutes(int,int)", "int minutesUntilCleared(int)", "int depthAfter(int,int)", "int time()",
        "int saltStore()", "int snowfall()", "int wind()", "int clearedTotal()", "int ploughedTotal()",
        "int failedOrders()", "int complaintTotal()", "double meanDepth()", "float saltedShare()",
        "boolean isConsistent()", "int renderStreet(int)", "int renderQueue(int)", "char outputAt(int)",
        "int type(char)", "int runScript()", "int errorPosition()", "int failedCommand()", "int undo()",
        "int save()", "int restore()",
    };

    public static void main(String[] args) {
        Set<String> due = new TreeSet<>(Set.of(FACE));
        Set<String> names = new TreeSet<>();
        Set<String> got = new TreeSet<>();
        for (Method method : SnowDispatcher.class.getDeclaredMethods()) {
            if (isOpen(method)) {
                got.add(described(method));
                names.add(method.getName());
            }
        }
        Check.is("face", due, got);
        Check.is("class", Modifier.PUBLIC | Modifier.FINAL, SnowDispatcher.class.getModifiers());
        Constructor<?>[] constructors = SnowDispatcher.class.getDeclaredConstructors();
        Check.is("constructors", 1, constructors.length);
        Check.is("constructor", "public SnowDispatcher()", constructors[0].toString());
        for (Field field : SnowDispatcher.class.getDeclaredFields()) {
            Check.is("private field " + field.getName(), false, isOpen(field));
        }
        noSharedState(SnowDispatcher.class);
        for (Class<?> inner : SnowDispatcher.class.getDeclaredClasses()) {
            Check.is("static " + inner.getName(), true, Modifier.isStatic(inner.getModifiers()));
            noSharedState(inner);
            for (Method method : inner.getDeclaredMethods()) {
                Check.is("name " + method, false, names.contains(method.getName()));
            }
        }
        Check.end();
    }

    private static boolean isOpen(Member member) {
        return !Modifier.isPrivate(member.getModifiers()) && !member.isSynthetic();
    }

    private static String described(Method method) {
        StringBuilder text = new StringBuilder();
        text.append(method.getReturnType().getName()).append(' ').append(method.getName()).append('(');
        String comma = "";
        for (Class<?> parameter : method.getParameterTypes()) {
            text.append(comma).append(parameter.getName());
            comma = ",";
        }
        return text.append(')').toString();
    }

    private static void noSharedState(Class<?> owner) {
        for (Field field : owner.getDeclaredFields()) {
            if (Modifier.isStatic(field.getModifiers()) && !field.isSynthetic()) {
                Check.is("constant " + field, true,
                        Modifier.isFinal(field.getModifiers()) && field.getType().isPrimitive());
            }
        }
    }
}
