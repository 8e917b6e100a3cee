import java.lang.reflect.Constructor;
import java.lang.reflect.Field;
import java.lang.reflect.Method;
import java.lang.reflect.Modifier;
import java.util.Arrays;
import java.util.Set;
import java.util.TreeSet;
import java.util.stream.Collectors;

/** The public face, as the document tells it, and what LANGUAGE.md asks of members. */
public final class FaceTest {
    private static final Due DUE = new Due("FaceTest");
    private static final String[] METHODS = {
        "int count(int)", "int dawn(int)", "int build(int,int,int)", "int site(int,int)",
        "int feed(int,int,int,int,int,int)", "int text()", "int force(int)", "int asks(int,int,int)",
        "int stone(int,int,int)", "int put(int,int,int)", "int told(int,int)", "int love(int,int,int)",
        "int year()", "int run(int,int)", "int when(int,int)", "int peace(int)", "int court(int)", "int all(int)",
        "int annex(int)", "int cart(int,int)", "long share(int)", "int judge(int,int)", "int kinds(int,int,int)",
        "int states(int,int,int,int)", "int whose(int)", "int laws(int,int)", "int film(int,int,int)",
        "int drawn(int,int)", "long odds(int,int,int,int)", "int image()", "int back()", "int sheet(int,int,int)",
        "int cell(int,int,int)", "int copy(int,int,int,int,int)", "int stonesBy(int,int,int,int)",
        "int taken(int,int)",
    };

    public static void main(String[] args) {
        constants();
        publicMembers();
        DUE.is("1 the class is public and final", StonesChoose.class.getModifiers(), Modifier.PUBLIC | Modifier.FINAL);
        DUE.is("1 the class has no package", StonesChoose.class.getPackageName().length(), 0);
        Set<String> names = Arrays.stream(METHODS).map(m -> m.replaceAll("^\\w+ |\\(.*", ""))
            .collect(Collectors.toCollection(TreeSet::new));
        DUE.is("methods of the face", names.size(), 36);
        members(StonesChoose.class, names);
        DUE.is("rule 11: some twelve classes", StonesChoose.class.getDeclaredClasses().length < 12 ? 1 : 0, 1);
        for (Class<?> inner : StonesChoose.class.getDeclaredClasses()) {
            int m = inner.getModifiers();
            DUE.is("rule 2: " + inner + " is static", Modifier.isStatic(m) ? 1 : 0, 1);
            DUE.is("rule 1: " + inner + " is inside", Modifier.isPublic(m) || Modifier.isProtected(m) ? 1 : 0, 0);
            members(inner, names);
        }
        DUE.end();
    }

    private static void constants() {
        DUE.is("NONE", StonesChoose.NONE, -1);
        DUE.is("BAD", StonesChoose.BAD, -2);
        DUE.is("STATE", StonesChoose.STATE, -3);
        DUE.is("FULL", StonesChoose.FULL, -4);
        DUE.is("NO", StonesChoose.NO, -4611686018427387904L);
    }

    private static void publicMembers() {
        Set<String> found = new TreeSet<>();
        for (Method m : StonesChoose.class.getDeclaredMethods()) {
            String params = Arrays.stream(m.getParameterTypes()).map(Class::getName).collect(Collectors.joining(","));
            if (!Modifier.isPrivate(m.getModifiers())) {
                found.add(m.getReturnType() + " " + m.getName() + "(" + params + ")");
                DUE.is("public, and nothing else: " + m, m.getModifiers(), Modifier.PUBLIC);
            }
        }
        Set<String> due = new TreeSet<>(Arrays.asList(METHODS));
        for (String method : due) {
            DUE.is("there is " + method, found.contains(method) ? 1 : 0, 1);
        }
        for (String method : found) {
            DUE.is("the document has " + method, due.contains(method) ? 1 : 0, 1);
        }
        Constructor<?>[] constructors = StonesChoose.class.getDeclaredConstructors();
        DUE.is("constructors", constructors.length, 1);
        DUE.is("constructor is public", constructors[0].getModifiers(), Modifier.PUBLIC);
        DUE.is("constructor takes nothing", constructors[0].getParameterCount(), 0);
        int constants = 0;
        for (Field f : StonesChoose.class.getDeclaredFields()) {
            if (!Modifier.isPrivate(f.getModifiers())) {
                constants++;
                DUE.is("a constant: " + f, f.getModifiers(), Modifier.PUBLIC | Modifier.STATIC | Modifier.FINAL);
                DUE.is("the type of " + f, f.getType() == (f.getName().equals("NO") ? long.class : int.class) ? 1 : 0, 1);
            }
        }
        DUE.is("constants", constants, 5);
    }

    private static void members(Class<?> type, Set<String> names) {
        int fields = 0;
        for (Field f : type.getDeclaredFields()) {
            boolean isStatic = Modifier.isStatic(f.getModifiers());
            fields += isStatic ? 0 : 1;
            DUE.is("rule 5: " + f + " is final", isStatic && !Modifier.isFinal(f.getModifiers()) ? 1 : 0, 0);
        }
        DUE.is("rule 11: some twenty fields in " + type, fields <= 20 ? 1 : 0, 1);
        for (Method m : type.getDeclaredMethods()) {
            boolean ofFace = type == StonesChoose.class && Modifier.isPublic(m.getModifiers());
            DUE.is("rule 1: " + m + " has a name of its own", !ofFace && names.contains(m.getName()) ? 1 : 0, 0);
            DUE.is("rule 11: seven parameters: " + m, m.getParameterCount() <= 7 ? 1 : 0, 1);
            DUE.is("rule 6: " + m, m.getName().matches("equals|hashCode|toString") ? 1 : 0, 0);
        }
    }
}
