import java.lang.reflect.Constructor;
import java.lang.reflect.Field;
import java.lang.reflect.Member;
import java.lang.reflect.Method;
import java.lang.reflect.Modifier;
import java.util.Arrays;
import java.util.Set;
import java.util.TreeSet;

/** The class shows the document's face and nothing else. */
public final class RepealedLawsFace {
    private static final String[] FACE = {
        "int set(int, int)", "int wish(int, int, int)", "int propose(int, int, int, int)", "int repeal(int)",
        "int endSession()", "int read()", "int law(int, int)", "int topic(int, int)", "int councillor(int, int)",
        "int count(int)", "int why(int, int, int, int)", "int votes(int, int, int, int)",
        "int bestRepeal(int, int, int)", "int longestBill(int, int)", "int bestBill()", "int put(long)",
        "int wipe()", "int fault()", "int undo()", "int save(int)", "int restore(int)",
        "int NO_SUCH = -1", "int BAD_VALUE = -2", "int BAD_TEXT = -3", "int TOO_MANY = -4",
        "int NOT_POSSIBLE = -5", "int NONE = -6", "int YEAS = 0", "int ROOM = 1", "int MEMORY = 2", "new()"};

    private static int wrong = 0;

    public static void main(String[] args) throws IllegalAccessException {
        Set<String> found = new TreeSet<>();
        Set<String> publicNames = new TreeSet<>();
        for (Method method : RepealedLaws.class.getDeclaredMethods()) {
            if (isShown(method)) {
                check(Modifier.isPublic(method.getModifiers()), method + " is public");
                check(!Modifier.isStatic(method.getModifiers()), method + " is no static method");
                publicNames.add(method.getName());
                found.add(method.getReturnType() + " " + method.getName() + parameters(method.getParameterTypes()));
            }
        }
        for (Method method : RepealedLaws.class.getDeclaredMethods()) {
            check(isShown(method) || !publicNames.contains(method.getName()), method + " has a name of its own");
        }
        for (Field field : RepealedLaws.class.getDeclaredFields()) {
            if (isShown(field)) {
                int modifiers = field.getModifiers();
                check(Modifier.isPublic(modifiers) && Modifier.isStatic(modifiers) && Modifier.isFinal(modifiers),
                        field + " is a public constant");
                found.add(field.getType() + " " + field.getName() + " = " + field.getInt(null));
            }
        }
        for (Constructor<?> constructor : RepealedLaws.class.getDeclaredConstructors()) {
            check(Modifier.isPublic(constructor.getModifiers()), constructor + " is public");
            found.add("new" + parameters(constructor.getParameterTypes()));
        }
        check(Modifier.isPublic(RepealedLaws.class.getModifiers()), "the class is public");
        check(Modifier.isFinal(RepealedLaws.class.getModifiers()), "the class is final");
        Set<String> due = new TreeSet<>(Arrays.asList(FACE));
        check(found.equals(due), "the face is " + due + ", found is " + found);
        System.out.println(wrong == 0 ? "the face is as due" : wrong + " things are not as due");
        if (wrong != 0) {
            System.exit(1);
        }
    }

    private static boolean isShown(Member member) {
        return !Modifier.isPrivate(member.getModifiers()) && !member.isSynthetic();
    }

    private static String parameters(Class<?>[] types) {
        StringBuilder text = new StringBuilder("(");
        for (int i = 0; i < types.length; i++) {
            text.append(i == 0 ? "" : ", ").append(types[i]);
        }
        return text.append(")").toString();
    }

    private static void check(boolean holds, String what) {
        if (!holds) {
            wrong++;
            System.out.println("does not hold: " + what);
        }
    }
}
