import java.lang.reflect.Constructor;
import java.lang.reflect.Field;
import java.lang.reflect.Member;
import java.lang.reflect.Method;
import java.lang.reflect.Modifier;
import java.util.Arrays;
import java.util.Set;
import java.util.TreeSet;

/** The class shows the document's face and nothing else, and keeps no state that can change in static fields. */
public final class FaceTest {
    private static final String[] METHODS = {
        "int box(int,int,int,int,int,int)", "int speed(int,int,int)", "int move(int,int,int)", "int drop(int)",
        "int room(int)", "int feed(int)", "int boxes()", "int of(int,int)", "int square(int,int)",
        "int cell(int,int,int)", "int told(int)", "int far(int,int,int)", "int nearest(int,int,int,int)",
        "long window(int,int,int,int)", "int pair(int)", "int pass(int)", "int on(int,int)", "int first(int,int)",
        "int see(int,int,int)", "int speeds(int,int)", "long odds(int,int)", "long mean(int)", "int plan(int,int)",
        "int ends(int)", "int book(int,int)", "int looked()", "int judge(int,int)", "int image()", "int undo()",
        "int taken(int,int)", "int count(int)", "int tape(int,int,int)", "int item(int,int,long)",
        "long read(int,int)", "int shift(int,int,int,int,int)"};
    private static final Set<String> FIELDS = Set.of("NONE", "BAD", "STATE", "FULL", "NO");
    private static final int MOST_PARAMETERS = 7;
    private static final int MOST_FIELDS = 20;
    private static int wrong = 0;

    private static void due(boolean holds, String what) {
        if (!holds) {
            wrong++;
            System.out.println(what);
        }
    }

    private static boolean isPrivate(Member m) {
        return Modifier.isPrivate(m.getModifiers());
    }

    private static String told(Method m) {
        StringBuilder s = new StringBuilder(m.getReturnType().getName() + " " + m.getName() + "(");
        for (Class<?> type : m.getParameterTypes()) {
            s.append(s.charAt(s.length() - 1) == '(' ? "" : ",").append(type.getName());
        }
        return s.append(")").toString();
    }

    private static void face() {
        Class<?> grid = LooseGrid.class;
        due(Modifier.isPublic(grid.getModifiers()) && Modifier.isFinal(grid.getModifiers()), "not public and final");
        due(grid.getPackageName().isEmpty(), "in a package");
        Set<String> shown = new TreeSet<>();
        for (Method m : grid.getDeclaredMethods()) {
            if (!isPrivate(m)) shown.add(told(m));
            due(isPrivate(m) || Modifier.isPublic(m.getModifiers()) && !Modifier.isStatic(m.getModifiers()),
                    "not public: " + m);
        }
        due(shown.equals(new TreeSet<>(Arrays.asList(METHODS))), "the methods are " + shown);
        for (Constructor<?> c : grid.getDeclaredConstructors()) {
            due(Modifier.isPublic(c.getModifiers()) && c.getParameterCount() == 0, "the constructor " + c);
        }
        Set<String> constants = new TreeSet<>();
        for (Field f : grid.getDeclaredFields()) {
            if (!isPrivate(f)) constants.add(f.getName());
        }
        due(constants.equals(new TreeSet<>(FIELDS)), "the constants are " + constants);
    }

    private static void rules(Class<?> one) {
        Set<String> shown = new TreeSet<>();
        for (String method : METHODS) shown.add(method.substring(method.indexOf(' ') + 1, method.indexOf('(')));
        for (Method m : one.getDeclaredMethods()) {
            due(m.getParameterCount() <= MOST_PARAMETERS, "too many parameters: " + m);
            boolean isFace = one == LooseGrid.class && !isPrivate(m);
            due(isFace || !shown.contains(m.getName()), "bears the name of a public one: " + m);
        }
        int fields = 0;
        for (Field f : one.getDeclaredFields()) {
            boolean isStatic = Modifier.isStatic(f.getModifiers());
            fields += isStatic ? 0 : 1;
            due(!isStatic || Modifier.isFinal(f.getModifiers()), "static, and not final: " + f);
        }
        due(fields <= MOST_FIELDS, "too many fields: " + one);
        boolean isInside = one != LooseGrid.class;
        due(!isInside || Modifier.isStatic(one.getModifiers()), "not static: " + one);
        due(!isInside || !Modifier.isPublic(one.getModifiers()), "public: " + one);
    }

    public static void main(String[] args) {
        face();
        rules(LooseGrid.class);
        for (Class<?> inside : LooseGrid.class.getDeclaredClasses()) rules(inside);
        due(LooseGrid.class.getDeclaredClasses().length < 12, "too many classes");
        System.out.println(wrong == 0 ? "the face is the document's" : wrong + " faults of the face");
        if (wrong != 0) System.exit(1);
    }
}
