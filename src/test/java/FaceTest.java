import java.lang.reflect.Constructor;
import java.lang.reflect.Field;
import java.lang.reflect.Member;
import java.lang.reflect.Method;
import java.lang.reflect.Modifier;
import java.util.ArrayList;
import java.util.List;
import java.util.Set;
import java.util.TreeSet;

/** The class has the face that the document writes out, and nothing else that is to be seen. */
public final class FaceTest {
    private static final Set<String> METHODS = Set.of(
            "boolean board(int,int)", "boolean set(int,int,int)", "int lay(int)", "boolean swap()", "boolean undo()",
            "boolean redo()", "void change()", "int at(int)", "int group(int)", "int look(int,int)", "int joined()",
            "int way(int)", "int winner(int)", "int first(int,int)", "int fillings()", "int dead(int)",
            "int link(int,int,int)", "int half(int,int,int,int)", "int count(int)");

    private static final Check CHECK = new Check("FaceTest");

    public static void main(String[] args) {
        Class<?> face = TwoBanks.class;
        CHECK.due("class", Modifier.PUBLIC | Modifier.FINAL, face.getModifiers());
        CHECK.due("NONE", -1, TwoBanks.NONE);
        Set<String> seen = new TreeSet<>();
        for (Method method : face.getDeclaredMethods()) {
            if (isSeen(method)) {
                seen.add(sign(method));
                CHECK.due("modifiers of " + method, Modifier.PUBLIC, method.getModifiers());
            } else {
                CHECK.due("name of " + method, true, hasOwnName(method.getName()));
            }
        }
        CHECK.due("methods " + seen, true, seen.equals(new TreeSet<>(METHODS)));
        Constructor<?>[] made = face.getDeclaredConstructors();
        CHECK.due("constructors", 1, made.length);
        CHECK.due("its modifiers", Modifier.PUBLIC, made[0].getModifiers());
        CHECK.due("its parameters", 0, made[0].getParameterCount());
        fields(face);
        for (Class<?> inside : face.getDeclaredClasses()) {
            CHECK.due("static " + inside, true, Modifier.isStatic(inside.getModifiers()));
            CHECK.due("private " + inside, true, Modifier.isPrivate(inside.getModifiers()));
            staticFields(inside);
            for (Method method : inside.getDeclaredMethods()) {
                CHECK.due("name of " + method, true,
                        !Modifier.isPrivate(method.getModifiers()) || hasOwnName(method.getName()));
            }
        }
        CHECK.end();
    }

    private static void fields(Class<?> face) {
        staticFields(face);
        List<String> seen = new ArrayList<>();
        for (Field field : face.getDeclaredFields()) {
            if (isSeen(field)) {
                seen.add(Modifier.toString(field.getModifiers()) + " " + field.getType() + " " + field.getName());
            }
        }
        CHECK.due("fields " + seen, true, seen.equals(List.of("public static final int NONE")));
    }

    private static void staticFields(Class<?> type) {
        for (Field field : type.getDeclaredFields()) {
            int modifiers = field.getModifiers();
            CHECK.due("final " + field, true, !Modifier.isStatic(modifiers) || Modifier.isFinal(modifiers));
        }
    }

    private static boolean isSeen(Member member) {
        return !Modifier.isPrivate(member.getModifiers()) && !member.isSynthetic();
    }

    private static boolean hasOwnName(String name) {
        for (String method : METHODS) {
            if (method.contains(" " + name + "(")) {
                return false;
            }
        }
        return true;
    }

    private static String sign(Method method) {
        StringBuilder out = new StringBuilder(method.getReturnType().getName()).append(' ').append(method.getName());
        String gap = "(";
        for (Class<?> type : method.getParameterTypes()) {
            out.append(gap).append(type.getName());
            gap = ",";
        }
        return out.append(method.getParameterCount() == 0 ? "()" : ")").toString();
    }
}
