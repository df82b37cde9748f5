import java.lang.reflect.Constructor;
import java.lang.reflect.Field;
import java.lang.reflect.Method;
import java.lang.reflect.Modifier;
import java.util.Arrays;
import java.util.TreeSet;

/** The public face: what the document lists, with its exceptions, and nothing else. */
public final class FaceTest {
    private static final String INDEX = "java.lang.IndexOutOfBoundsException";
    private static final String ARGUMENT = "java.lang.IllegalArgumentException";
    private static final String STATE = "java.lang.IllegalStateException";

    // Each method as the document writes it; I, A and S stand for the three exceptions.
    private static final String[] METHODS = {
        "void seed(int) A", "int bond(int,int) I A", "int site(int,int) I A", "int numberOf(int,int) I A",
        "boolean shut(int,boolean) I", "int strike(int) A", "int cluster(int,int,int) I A", "int sizes(int,int,int) A",
        "boolean spans(int,int,boolean) A", "int edge(int,boolean) A", "int edgeAnew(int,boolean) A",
        "int ways(int,int) A", "int cut(int,int) A", "int red(int,int) A", "int shortest(int,int) A",
        "int polynomial(int,int,int) A", "long chance(int,int,int) A", "int pivots(int,int,int) A",
        "int time(int,int) I", "int ball(int,int) I A", "int rival(int,int,int) I A", "int invade(int,int) I A S",
        "int invaded(int,int) I A S", "boolean wet(int,boolean) I S", "int filled(int,int) A",
        "int leastWet(int,int,int) A", "int grow(int) A", "int lightning(int) I", "int fibre(int,int) I A",
        "int load(int,boolean) A", "int lastStraw(boolean)", "int drain(int) A", "int soak(int) A",
        "int trapped(boolean)", "int scale(int,int) A", "int estimate(int,int,int) A", "int type(int) A S",
        "int wipe()", "int measure(int,int) A S", "int count(int) A",
    };

    public static void main(String[] args) {
        constants();
        methods();
        constructor();
        nestedClasses();
        Due.end();
    }

    private static void constants() {
        Due.is("NONE", Seepwork.NONE, -1);
        Due.is("BONDS", Seepwork.BONDS, 0);
        Due.is("SITES", Seepwork.SITES, 1);
        Due.is("BOTH", Seepwork.BOTH, 2);
        int shown = 0;
        for (Field field : Seepwork.class.getDeclaredFields()) {
            if (!Modifier.isPrivate(field.getModifiers())) {
                shown++;
                Due.is(field.getName() + " is a constant", field.getModifiers(),
                        Modifier.PUBLIC | Modifier.STATIC | Modifier.FINAL);
            }
        }
        Due.is("how many fields are not private", shown, 4);
    }

    private static void methods() {
        TreeSet<String> got = new TreeSet<>();
        TreeSet<String> publicNames = new TreeSet<>();
        for (Method method : Seepwork.class.getDeclaredMethods()) {
            if (!Modifier.isPrivate(method.getModifiers())) {
                Due.is(method.getName() + " is public alone", method.getModifiers(), Modifier.PUBLIC);
                got.add(shown(method));
                publicNames.add(method.getName());
            }
        }
        TreeSet<String> due = new TreeSet<>();
        for (String method : METHODS) {
            due.add(method.replace(" I", " " + INDEX).replace(" A", " " + ARGUMENT).replace(" S", " " + STATE));
        }
        Due.isText("the methods", got.toString(), due.toString());
        for (Method method : Seepwork.class.getDeclaredMethods()) {
            boolean isHidden = Modifier.isPrivate(method.getModifiers());
            boolean isTwice = isHidden && publicNames.contains(method.getName());
            Due.is("private " + method.getName() + " has a public name", isTwice, false);
        }
    }

    private static String shown(Method method) {
        StringBuilder text = new StringBuilder();
        text.append(method.getReturnType().getName()).append(' ').append(method.getName()).append('(');
        for (int i = 0; i < method.getParameterTypes().length; i++) {
            text.append(i == 0 ? "" : ",").append(method.getParameterTypes()[i].getName());
        }
        text.append(')');
        for (Class<?> thrown : method.getExceptionTypes()) {
            text.append(' ').append(thrown.getName());
        }
        return text.toString();
    }

    private static void constructor() {
        Constructor<?>[] all = Seepwork.class.getDeclaredConstructors();
        Due.is("how many constructors", all.length, 1);
        Due.is("the constructor is public", all[0].getModifiers(), Modifier.PUBLIC);
        Due.isText("its parameters", Arrays.toString(all[0].getParameterTypes()), "[]");
        Due.is("the class is public and final", Seepwork.class.getModifiers(), Modifier.PUBLIC | Modifier.FINAL);
    }

    private static void nestedClasses() {
        Class<?>[] nested = Seepwork.class.getDeclaredClasses();
        Due.is("at most twelve classes", nested.length + 1 <= 12, true);
        for (Class<?> one : nested) {
            int modifiers = one.getModifiers();
            Due.is(one.getName() + " is static", Modifier.isStatic(modifiers), true);
            Due.is(one.getName() + " is public", Modifier.isPublic(modifiers), false);
            Due.is(one.getName() + " is protected", Modifier.isProtected(modifiers), false);
            int count = 0;
            for (Field field : one.getDeclaredFields()) {
                count += Modifier.isStatic(field.getModifiers()) ? 0 : 1;
            }
            Due.is(one.getName() + " has at most twenty fields", count <= 20, true);
        }
    }
}
