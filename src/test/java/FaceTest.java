import java.lang.reflect.Constructor;
import java.lang.reflect.Field;
import java.lang.reflect.Method;
import java.lang.reflect.Modifier;
import java.util.ArrayList;
import java.util.List;

/** The public face: the class, its constructor, and each method with its types and exceptions. */
public final class FaceTest {
    private static final String INDEX = "IndexOutOfBoundsException";
    private static final String ARGUMENT = "IllegalArgumentException";
    private static final String STATE = "IllegalStateException";

    private static final List<String> SEEN = new ArrayList<>();

    private FaceTest() {
    }

    public static void main(String[] args) {
        Check.sentence("The public face", "public final class StreamPlayer", () ->
            Check.due("its modifiers", StreamPlayer.class.getModifiers(),
                Modifier.PUBLIC | Modifier.FINAL));
        Check.sentence("The public face", "public StreamPlayer()", FaceTest::constructorIsDue);
        settings();
        session();
        accounts();
        forecasts();
        Check.sentence("The public face", "nothing beside these", FaceTest::nothingElseIsSeen);
        Check.end();
    }

    private static void settings() {
        method("int setParameter(int, int)", INDEX, ARGUMENT, STATE);
        method("int addRung(int, int)", INDEX, ARGUMENT, STATE);
        method("int addPhase(int, int)", ARGUMENT, STATE);
        method("int clear()", STATE);
        method("int bandwidth(int)", ARGUMENT);
        method("long size(int, int, int)", INDEX);
    }

    private static void session() {
        method("int start()", STATE);
        method("int stop()", STATE);
        method("int run(int)", ARGUMENT, STATE);
        method("int state()");
        method("int time()", STATE);
        method("int position()", STATE);
        method("int buffer(int)", INDEX, STATE);
        method("int downloaded(int)", INDEX, STATE);
        method("int rungOf(int, int)", INDEX, STATE);
        method("int download(int)", INDEX, STATE);
        method("long received()", STATE);
        method("int estimate()", STATE);
        method("int nextRung()", STATE);
        method("int latency()", STATE);
    }

    private static void accounts() {
        method("int spent(int)", INDEX, STATE);
        method("int count(int)", INDEX, STATE);
        method("long wasted()", STATE);
        method("long quality()", STATE);
        method("long score()", STATE);
        method("int timeLine(int)", INDEX, STATE);
    }

    private static void forecasts() {
        method("int forecast(int, int)", ARGUMENT, INDEX, STATE);
        method("long trialScore(int, int)", ARGUMENT, STATE);
        method("int bestMode(int)", ARGUMENT, STATE);
        method("int leastStart(int)", ARGUMENT, STATE);
        method("long fingerprint()");
    }

    private static void constructorIsDue() {
        Constructor<?>[] found = StreamPlayer.class.getDeclaredConstructors();
        Check.due("the number of constructors", found.length, 1);
        for (Constructor<?> constructor : found) {
            Check.due("its modifiers", constructor.getModifiers(), Modifier.PUBLIC);
            Check.due("its arguments", constructor.getParameterCount(), 0);
            Check.same("its exceptions", names(constructor.getExceptionTypes()), "");
        }
    }

    /** The method is public and neither static nor anything else, and throws what is listed. */
    private static void method(String signature, String... exceptions) {
        SEEN.add(signature);
        Check.sentence("The public face", signature, () -> {
            Method found = find(signature);
            Check.holds("that there is such a method", found != null);
            if (found != null) {
                Check.due("its modifiers", found.getModifiers(), Modifier.PUBLIC);
                Check.same("its exceptions", names(found.getExceptionTypes()),
                    String.join(", ", exceptions));
            }
        });
    }

    private static void nothingElseIsSeen() {
        for (Method method : StreamPlayer.class.getDeclaredMethods()) {
            boolean due = SEEN.contains(signature(method));
            Check.holds(signature(method) + " is private or one of these",
                due || Modifier.isPrivate(method.getModifiers()));
        }
        for (Field field : StreamPlayer.class.getDeclaredFields()) {
            Check.holds(field.getName() + " is private", Modifier.isPrivate(field.getModifiers()));
        }
        for (Class<?> inside : StreamPlayer.class.getDeclaredClasses()) {
            Check.holds(inside.getSimpleName() + " is not public and not protected",
                (inside.getModifiers() & (Modifier.PUBLIC | Modifier.PROTECTED)) == 0);
        }
    }

    private static Method find(String signature) {
        for (Method method : StreamPlayer.class.getDeclaredMethods()) {
            if (signature(method).equals(signature)) {
                return method;
            }
        }
        return null;
    }

    private static String signature(Method method) {
        return method.getReturnType().getSimpleName() + " " + method.getName()
            + "(" + names(method.getParameterTypes()) + ")";
    }

    private static String names(Class<?>[] types) {
        List<String> names = new ArrayList<>();
        for (Class<?> type : types) {
            names.add(type.getSimpleName());
        }
        return String.join(", ", names);
    }
}
