import java.lang.reflect.Constructor;
import java.lang.reflect.Field;
import java.lang.reflect.Member;
import java.lang.reflect.Method;
import java.lang.reflect.Modifier;
import java.util.List;
import java.util.TreeSet;

/** The public face is the document's and no more; no private method bears a public one's name. */
public final class FaceTest {
    private static final List<String> FACE = List.of(
        "int feed(int,int,int,int,int)", "int text(int)", "int fault(int)", "int named(int,int)",
        "int person(int,int)", "int room(int,int)", "int out(int)", "long law(int,int)", "boolean set(int)",
        "boolean hang(int)", "boolean candle(boolean)", "boolean jumper(int,boolean)", "int go(int)",
        "int ahead(int,int,int)", "int soon(int,int,int)", "int quicker(int,int,int,int)", "int best(int,int)",
        "int cheap(int,int)", "int hears(int)", "int onAgain(int,int,int)", "int night(int)", "int swings(int)",
        "int degree(int)", "int learn(int)", "int rests(int,int)", "int rest(int,int,int)", "int givesIn(int,int)",
        "int crossest()", "int turnsOf(int,int)", "int strip(int,int)", "int spread()", "int apart(int,int)",
        "int feels(int,int)", "int wear(int,int,boolean)", "int strike(int)", "boolean known(int)",
        "int lately(int)", "int chance(int,int,int,int)", "int tried(int,int,int)", "int undo()", "int keep()",
        "int back()", "int count(int)");

    private static boolean isHidden(Member member) {
        return Modifier.isPrivate(member.getModifiers()) || member.isSynthetic();
    }

    private static String signature(Method method) {
        StringBuilder text = new StringBuilder(method.getReturnType() + " " + method.getName() + "(");
        for (Class<?> type : method.getParameterTypes()) {
            text.append(text.charAt(text.length() - 1) == '(' ? "" : ",").append(type);
        }
        return text.append(")").toString();
    }

    public static void main(String[] args) throws Exception {
        TreeSet<String> seen = new TreeSet<>();
        TreeSet<String> names = new TreeSet<>();
        for (Method method : KnobHall.class.getDeclaredMethods()) {
            if (!isHidden(method)) {
                seen.add(signature(method));
                names.add(method.getName());
                Hall.due(method + " is public, not static",
                    Modifier.isPublic(method.getModifiers()) && !Modifier.isStatic(method.getModifiers()), true);
            }
        }
        Hall.due("the face " + seen, seen.equals(new TreeSet<>(FACE)), true);
        lookInside(KnobHall.class, names);
        for (Class<?> inner : KnobHall.class.getDeclaredClasses()) {
            lookInside(inner, names);
            Hall.due(inner + " is static, not public",
                Modifier.isStatic(inner.getModifiers()) && !Modifier.isPublic(inner.getModifiers()), true);
        }
        for (Field field : KnobHall.class.getDeclaredFields()) {
            Hall.due("the field " + field.getName(), isHidden(field) || field.getName().equals("NONE"), true);
        }
        Constructor<?>[] made = KnobHall.class.getDeclaredConstructors();
        Hall.due("constructors", made.length, 1);
        Hall.due("its parameters", made[0].getParameterCount(), 0);
        Hall.due("final", Modifier.isFinal(KnobHall.class.getModifiers()), true);
        Hall.due("NONE", KnobHall.NONE, -1);
        Class<?>[] thrown = KnobHall.class.getMethod("person", int.class, int.class).getExceptionTypes();
        Hall.due("what person throws", thrown.length, 2);
        Hall.end();
    }

    private static void lookInside(Class<?> which, TreeSet<String> names) {
        for (Method method : which.getDeclaredMethods()) {
            boolean borrowed = names.contains(method.getName());
            Hall.due(which + "'s " + method.getName(), borrowed && isHidden(method), false);
        }
    }
}
