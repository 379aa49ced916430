import java.io.IOException;
import java.lang.reflect.Constructor;
import java.lang.reflect.Field;
import java.lang.reflect.Member;
import java.lang.reflect.Method;
import java.lang.reflect.Modifier;
import java.nio.file.Files;
import java.nio.file.Path;
import java.util.List;
import java.util.NoSuchElementException;
import java.util.TreeSet;
import java.util.regex.Matcher;
import java.util.regex.Pattern;

/** The public face is the document's and no more; no private method bears a public one's name. */
public final class FaceTest {
    private static final Pattern PROMISED = Pattern.compile("public (\\w+ \\w+)\\((.*)\\)( throws .*)?;");

    /** As the document writes it, without the names of parameters. */
    private static TreeSet<String> face() throws IOException {
        TreeSet<String> face = new TreeSet<>();
        for (String line : Files.readAllLines(Path.of("../shared/DOC.md"))) {
            Matcher promised = PROMISED.matcher(line.trim());
            if (promised.matches()) {
                face.add(promised.group(1) + "(" + promised.group(2).replaceAll(" \\w+(, )?", ",").replaceAll(",$", "") + ")");
            }
        }
        return face;
    }

    private static boolean isHidden(Member member) {
        return Modifier.isPrivate(member.getModifiers()) || member.isSynthetic();
    }

    private static String signature(Method method) {
        StringBuilder text = new StringBuilder(method.getReturnType() + " " + method.getName() + "(");
        for (Class<?> type : method.getParameterTypes()) {
            text.append(text.charAt(text.length() - 1) == '(' ? "" : ",").append(type);
        }
        return text.append(")").toString();
    }

    public static void main(String[] args) throws Exception {
        TreeSet<String> seen = new TreeSet<>();
        TreeSet<String> names = new TreeSet<>();
        for (Method method : KnobHall.class.getDeclaredMethods()) {
            if (!isHidden(method)) {
                seen.add(signature(method));
                names.add(method.getName());
                Hall.due(method + " is public, not static",
                    Modifier.isPublic(method.getModifiers()) && !Modifier.isStatic(method.getModifiers()), true);
            }
        }
        Hall.due("calls of the face", face().size(), 43);
        Hall.due("the face " + seen, seen.equals(face()), true);
        lookInside(KnobHall.class, names);
        for (Class<?> inner : KnobHall.class.getDeclaredClasses()) {
            lookInside(inner, names);
            Hall.due(inner + " is static, not public",
                Modifier.isStatic(inner.getModifiers()) && !Modifier.isPublic(inner.getModifiers()), true);
        }
        for (Field field : KnobHall.class.getDeclaredFields()) {
            Hall.due("the field " + field.getName(), isHidden(field) || field.getName().equals("NONE"), true);
        }
        Constructor<?>[] made = KnobHall.class.getDeclaredConstructors();
        Hall.due("constructors", made.length, 1);
        Hall.due("its parameters", made[0].getParameterCount(), 0);
        Hall.due("final", Modifier.isFinal(KnobHall.class.getModifiers()), true);
        Hall.due("NONE", KnobHall.NONE, -1);
        Class<?>[] thrown = KnobHall.class.getMethod("person", int.class, int.class).getExceptionTypes();
        Hall.due("what person throws " + List.of(thrown),
            List.of(thrown).equals(List.of(IndexOutOfBoundsException.class, NoSuchElementException.class)), true);
        Hall.end();
    }

    private static void lookInside(Class<?> which, TreeSet<String> names) {
        for (Method method : which.getDeclaredMethods()) {
            boolean borrowed = names.contains(method.getName());
            Hall.due(which + "'s " + method.getName(), borrowed && isHidden(method), false);
        }
    }
}
