import java.lang.reflect.Constructor;
import java.lang.reflect.Field;
import java.lang.reflect.Method;
import java.lang.reflect.Modifier;
import java.util.Arrays;
import java.util.Set;
import java.util.TreeSet;

/** The public face is the document's, and there is nothing else that another class could see. */
public final class FaceTest {
    private static final String ARGUMENT = " IllegalArgumentException";
    private static final String STATE = " IllegalStateException";

    public static void main(String[] args) {
        Answers answers = new Answers();
        constants(answers);
        Class<?> face = CardDirectory.class;
        answers.compare("the class", "public final", Modifier.toString(face.getModifiers()));
        answers.compare("the methods", methodsOfTheDocument().toString(), visibleMethods(face).toString());
        answers.compare("the fields", "[BAD, DOUBLE, ELSEWHERE, NONE, NOWHERE]", visibleFields(face).toString());
        answers.compare("the constructors", "[public CardDirectory(int,int)]", visibleConstructors(face).toString());
        answers.compare("private methods with a public name", "[]", privateNamesakes(face).toString());
        answers.compare("classes inside that are not static", "[]", innerClasses(face).toString());
        answers.end();
    }

    private static void constants(Answers answers) {
        answers.due("NONE", -1, () -> CardDirectory.NONE);
        answers.due("BAD", -5, () -> CardDirectory.BAD);
        answers.due("NOWHERE", -6, () -> CardDirectory.NOWHERE);
        answers.due("ELSEWHERE", -7, () -> CardDirectory.ELSEWHERE);
        answers.due("DOUBLE", -8, () -> CardDirectory.DOUBLE);
    }

    private static Set<String> methodsOfTheDocument() {
        return new TreeSet<>(Arrays.asList(
            "int route[int, int, int]" + ARGUMENT + STATE,
            "int unroute[int, int]" + ARGUMENT,
            "int routes[]",
            "int account[int]" + ARGUMENT + STATE,
            "int card[long, int]" + ARGUMENT + STATE,
            "boolean block[int, boolean]" + ARGUMENT,
            "int whose[long]" + ARGUMENT,
            "boolean good[long]" + ARGUMENT,
            "int digit[long]" + ARGUMENT,
            "int use[long, int]" + ARGUMENT,
            "int used[int, int]" + ARGUMENT,
            "long told[int, int]" + ARGUMENT));
    }

    private static Set<String> visibleMethods(Class<?> face) {
        Set<String> found = new TreeSet<>();
        for (Method method : face.getDeclaredMethods()) {
            if (!Modifier.isPrivate(method.getModifiers())) {
                StringBuilder line = new StringBuilder();
                if (method.getModifiers() != Modifier.PUBLIC) {
                    line.append(Modifier.toString(method.getModifiers())).append(' ');
                }
                line.append(method.getReturnType()).append(' ').append(method.getName());
                line.append(Arrays.toString(method.getParameterTypes()));
                for (Class<?> thrown : method.getExceptionTypes()) {
                    line.append(' ').append(thrown.getSimpleName());
                }
                found.add(line.toString());
            }
        }
        return found;
    }

    private static Set<String> visibleFields(Class<?> face) {
        Set<String> found = new TreeSet<>();
        for (Field field : face.getDeclaredFields()) {
            if (!Modifier.isPrivate(field.getModifiers())) {
                boolean constant = Modifier.toString(field.getModifiers()).equals("public static final");
                found.add(constant && field.getType() == int.class ? field.getName() : field.toString());
            }
        }
        return found;
    }

    private static Set<String> visibleConstructors(Class<?> face) {
        Set<String> found = new TreeSet<>();
        for (Constructor<?> constructor : face.getDeclaredConstructors()) {
            if (!Modifier.isPrivate(constructor.getModifiers())) {
                found.add(constructor.toString());
            }
        }
        return found;
    }

    private static Set<String> privateNamesakes(Class<?> face) {
        Set<String> open = new TreeSet<>();
        Set<String> hidden = new TreeSet<>();
        for (Method method : face.getDeclaredMethods()) {
            (Modifier.isPublic(method.getModifiers()) ? open : hidden).add(method.getName());
        }
        hidden.retainAll(open);
        return hidden;
    }

    private static Set<String> innerClasses(Class<?> face) {
        Set<String> found = new TreeSet<>();
        for (Class<?> inside : face.getDeclaredClasses()) {
            if (!Modifier.isStatic(inside.getModifiers())) {
                found.add(inside.getSimpleName());
            }
        }
        return found;
    }
}
