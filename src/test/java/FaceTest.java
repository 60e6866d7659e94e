import java.lang.reflect.Method;
import java.lang.reflect.Modifier;
import java.util.ArrayList;
import java.util.Arrays;
import java.util.List;
import java.util.stream.Collectors;
import java.util.stream.Stream;

/** The class has the document's face and shows nothing else. */
public final class FaceTest {
    private static final String ARGUMENT = "IllegalArgumentException";
    private static final String STATE = "IllegalStateException";
    private static final String PLACE = "IndexOutOfBoundsException";
    private static final String ELEMENT = "NoSuchElementException";

    private static final List<String> FACE = List.of(
            face("sheet", 1, ARGUMENT, STATE), face("row", 3, PLACE), face("put", 4, PLACE), face("tear", 2, PLACE),
            face("word", 2, PLACE), face("letter", 3, PLACE), face("law", 3, ARGUMENT, PLACE), face("count", 1),
            face("power", 3, PLACE, ARGUMENT), face("run", 4, PLACE, ARGUMENT), face("clash", 4, PLACE, ARGUMENT),
            face("many", 3, ARGUMENT), face("find", 5, ARGUMENT, PLACE), face("rank", 4, ARGUMENT, PLACE),
            face("longest", 2, ARGUMENT), face("map", 4, ARGUMENT, PLACE), face("image", 4, ELEMENT, PLACE),
            face("keeps", 2, ELEMENT, PLACE), face("at", 3, ELEMENT), face("shape", 2, PLACE, ARGUMENT));

    private static String face(String name, int parameters, String... thrown) {
        return "int " + name + " " + "int".repeat(parameters) + " " + String.join(",", thrown);
    }

    private static String faceOf(Method method) {
        String parameters = Stream.of(method.getParameterTypes()).map(Class::getName).collect(Collectors.joining());
        String thrown = Stream.of(method.getExceptionTypes()).map(Class::getSimpleName)
                .collect(Collectors.joining(","));
        return method.getReturnType().getName() + " " + method.getName() + " " + parameters + " " + thrown;
    }

    private static List<String> shown() {
        List<String> shown = new ArrayList<>();
        for (Method method : WordBench.class.getDeclaredMethods()) {
            if (!Modifier.isPrivate(method.getModifiers()) && !method.isSynthetic()) {
                shown.add(faceOf(method));
            }
        }
        return shown;
    }

    private static String sorted(List<String> lines) {
        return lines.stream().sorted().collect(Collectors.joining("; "));
    }

    private static String shownFields() {
        return Arrays.stream(WordBench.class.getDeclaredFields())
                .filter(field -> !Modifier.isPrivate(field.getModifiers()))
                .map(field -> Modifier.toString(field.getModifiers()) + " " + field.getType() + " " + field.getName())
                .collect(Collectors.joining("; "));
    }

    /** The language's rule 1: these would hide behind the face. */
    private static String privateMethodsNamedLikePublicOnes() {
        List<String> names = Arrays.stream(WordBench.class.getMethods()).map(Method::getName).toList();
        return Stream.concat(Stream.of(WordBench.class), Arrays.stream(WordBench.class.getDeclaredClasses()))
                .flatMap(part -> Arrays.stream(part.getDeclaredMethods()))
                .filter(method -> Modifier.isPrivate(method.getModifiers()) && names.contains(method.getName()))
                .map(Method::getName).collect(Collectors.joining("; "));
    }

    public static void main(String[] args) {
        Check check = new Check("FaceTest");
        check.alike("the methods", sorted(shown()), sorted(FACE));
        check.alike("the fields", shownFields(), "public static final int NONE");
        check.alike("the class", Modifier.toString(WordBench.class.getModifiers()), "public final");
        check.alike("the constructors", Arrays.toString(WordBench.class.getDeclaredConstructors()),
                "[public WordBench()]");
        check.alike("private methods with a public name", privateMethodsNamedLikePublicOnes(), "");
        check.due(-1, "NONE", () -> WordBench.NONE);
        check.end();
    }
}
