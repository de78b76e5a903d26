import java.lang.reflect.Constructor;
import java.lang.reflect.Field;
import java.lang.reflect.Method;
import java.lang.reflect.Modifier;
import java.util.TreeSet;

/** The public face of the document, and that nothing else of the class can be seen (LANGUAGE.md, rules 1, 2 and 5). */
public final class FaceTest {
    private static final String I = "IndexOutOfBoundsException";
    private static final String A = "IllegalArgumentException";
    private static final String S = "IllegalStateException";

    private static final String[] FACE = {
        "int tie int int " + I + " " + A, "int add int int " + I + " " + A, "int slip int int " + I,
        "int mend int " + I, "int renew int " + I, "int dye int int " + I + " " + A, "int set int " + A,
        "int append int " + A + " " + S, "int clearBuffer", "int firstError", "int run " + A, "int keep int " + A,
        "int goBack int " + A + " " + S, "int undo " + S, "int cordOf int int " + I + " " + A,
        "int placeOf int int int " + I + " " + A, "int part int int " + I + " " + A, "int count int " + A,
        "int byHue int " + A, "int whyNot int int " + I + " " + A, "int howOften int int " + I + " " + A,
        "int cordsFor int int " + A, "int fullest", "double closedShare", "long digest"};

    public static void main(String[] args) {
        TreeSet<String> due = new TreeSet<>(java.util.List.of(FACE));
        TreeSet<String> names = new TreeSet<>();
        TreeSet<String> seen = new TreeSet<>();
        for (Method method : HerdCords.class.getDeclaredMethods()) {
            if (Modifier.isPublic(method.getModifiers()) && !Modifier.isStatic(method.getModifiers())) {
                seen.add(told(method));
                names.add(method.getName());
            }
        }
        if (!seen.equals(due)) {
            Check.fail("the face is " + seen + ", due is " + due);
        }
        for (Method method : HerdCords.class.getDeclaredMethods()) {
            if (!Modifier.isPublic(method.getModifiers())) {
                hidden(method.toString(), method.getModifiers());
                Check.same("a public name of " + method, names.contains(method.getName()) ? 1 : 0, 0);
            }
        }
        fieldsAndClasses();
        Check.end();
    }

    private static void fieldsAndClasses() {
        int modifiers = HerdCords.class.getModifiers();
        Check.same("public and final", modifiers & (Modifier.PUBLIC | Modifier.FINAL), Modifier.PUBLIC | Modifier.FINAL);
        Constructor<?>[] constructors = HerdCords.class.getDeclaredConstructors();
        Check.same("constructors", constructors.length, 1);
        Check.same("its parameters", constructors[0].getParameterCount(), 0);
        Check.same("its exceptions", constructors[0].getExceptionTypes().length, 0);
        Check.same("it is public", constructors[0].getModifiers(), Modifier.PUBLIC);
        Check.same("NONE", HerdCords.NONE, -1);
        for (Field field : HerdCords.class.getDeclaredFields()) {
            if (!field.getName().equals("NONE")) {
                hidden(field.toString(), field.getModifiers());
            }
            staticIsFinal(field);
        }
        for (Class<?> inside : HerdCords.class.getDeclaredClasses()) {
            Check.same("static: " + inside, inside.getModifiers() & Modifier.STATIC, Modifier.STATIC);
            for (Field field : inside.getDeclaredFields()) {
                staticIsFinal(field);
            }
        }
    }

    private static void hidden(String what, int modifiers) {
        Check.same("private: " + what, modifiers & Modifier.PRIVATE, Modifier.PRIVATE);
    }

    private static void staticIsFinal(Field field) {
        if (Modifier.isStatic(field.getModifiers())) {
            Check.same("final: " + field, field.getModifiers() & Modifier.FINAL, Modifier.FINAL);
        }
    }

    private static String told(Method method) {
        StringBuilder text = new StringBuilder(method.getReturnType().getSimpleName() + " " + method.getName());
        for (Class<?> type : method.getParameterTypes()) {
            text.append(' ').append(type.getSimpleName());
        }
        for (Class<?> type : method.getExceptionTypes()) {
            text.append(' ').append(type.getSimpleName());
        }
        return text.toString();
    }
}
