import java.lang.reflect.Constructor;
import java.lang.reflect.Field;
import java.lang.reflect.Method;
import java.lang.reflect.Modifier;
import java.nio.file.Files;
import java.nio.file.Path;
import java.util.Set;
import java.util.TreeSet;

// The face of the class is the document's and nothing more; its source keeps to ../shared/LANGUAGE.md
// as far as words can tell. The first argument is the source's path.
public final class FaceTest {
    private static final String[] FACE = {
        "int figure(int)", "int fame(int,int,int)", "int rights(int,int,int)", "int places(int)",
        "int standing(int)", "int plan(int)", "int shown(int,int)", "int picture(int,int,int,int)",
        "int span(int,int,int)", "int wrong(int,int)", "int days(int,int,int)", "int made(int)",
        "int order(int,int)", "int room(int,int,int)", "int come(int,int)", "int empty()", "int out(int)",
        "int most(int)", "int heat(int,int,int)", "int touch(int,int)", "int repair(int)", "int due()",
        "int tell(int,int,int,int)", "int likeness(int,int,int,int,int)", "int known(int)",
        "int about(int,int)", "int count(int)", "long digest()"};
    private static final String[] FORBIDDEN_WORDS = {"throw", "throws", "try", "catch", "synchronized",
        "assert", "import", "package", "System", "Object", "hashCode", "equals", "toString", "Exact",
        "volatile", "transient", "native", "strictfp", "var", "record", "double", "float"};
    private static int wrong = 0;

    private static void due(boolean holds, String what) {
        if (!holds) {
            wrong++;
            System.out.println("not as due: " + what);
        }
    }

    public static void main(String[] args) throws Exception {
        members();
        insides();
        if (args.length > 0) {
            words(Files.readString(Path.of(args[0])));
        } else {
            due(false, "the path of the source is given");
        }
        System.out.println(wrong == 0 ? "the face is as due" : wrong + " things are not as due");
        if (wrong != 0) {
            System.exit(1);
        }
    }

    private static void members() {
        due(Modifier.isPublic(WaxShow.class.getModifiers()), "the class is public");
        due(Modifier.isFinal(WaxShow.class.getModifiers()), "the class is final");
        Set<String> methods = new TreeSet<>();
        Set<String> publicNames = new TreeSet<>();
        for (Method m : WaxShow.class.getDeclaredMethods()) {
            if (Modifier.isPublic(m.getModifiers())) {
                due(!Modifier.isStatic(m.getModifiers()), m + " is not static");
                StringBuilder text = new StringBuilder(m.getReturnType() + " " + m.getName() + "(");
                for (int i = 0; i < m.getParameterCount(); i++) {
                    text.append(i == 0 ? "" : ",").append(m.getParameterTypes()[i]);
                }
                methods.add(text.append(")").toString());
                publicNames.add(m.getName());
            }
        }
        due(methods.equals(new TreeSet<>(Set.of(FACE))), "the public methods: " + methods);
        for (Method m : WaxShow.class.getDeclaredMethods()) {
            boolean open = Modifier.isPublic(m.getModifiers());
            due(open || Modifier.isPrivate(m.getModifiers()), m + " is public or private");
            due(open || !publicNames.contains(m.getName()), m + " has a name of its own");
        }
        Constructor<?>[] made = WaxShow.class.getDeclaredConstructors();
        due(made.length == 1 && made[0].getParameterCount() == 0
                && Modifier.isPublic(made[0].getModifiers()), "one public constructor of nothing");
        Set<String> constants = new TreeSet<>();
        for (Field f : WaxShow.class.getDeclaredFields()) {
            if (!Modifier.isPrivate(f.getModifiers())) {
                constants.add(Modifier.toString(f.getModifiers()) + " " + f.getType() + " " + f.getName());
            }
        }
        due(constants.equals(new TreeSet<>(Set.of("public static final int NONE", "public static final int BAD",
                "public static final int NO", "public static final int FULL"))), "the constants: " + constants);
    }

    private static void insides() {
        due(WaxShow.class.getDeclaredClasses().length <= 11, "some twelve classes at most");
        due(ownFields(WaxShow.class) <= 20, "some twenty fields at most");
        parameters(WaxShow.class);
        for (Class<?> c : WaxShow.class.getDeclaredClasses()) {
            int modifiers = c.getModifiers();
            due(Modifier.isStatic(modifiers), c + " is static");
            due(!Modifier.isPublic(modifiers) && !Modifier.isProtected(modifiers), c + " is not in the face");
            due(ownFields(c) <= 20, c + " has some twenty fields at most");
            parameters(c);
        }
    }

    private static void parameters(Class<?> c) {
        for (Method m : c.getDeclaredMethods()) {
            due(m.getParameterCount() <= 7, m + " takes at most seven parameters");
        }
    }

    private static int ownFields(Class<?> c) {
        int n = 0;
        for (Field f : c.getDeclaredFields()) {
            if (Modifier.isStatic(f.getModifiers())) {
                due(Modifier.isFinal(f.getModifiers()), f + " is final");
                due(f.getType() == int.class, f + " is a constant of int");
            } else {
                n++;
            }
        }
        return n;
    }

    private static void words(String source) {
        String code = source.replaceAll("(?s)/\\*.*?\\*/", " ").replaceAll("//[^\n]*", " ");
        for (String word : FORBIDDEN_WORDS) {
            due(!code.matches("(?s).*\\b" + word + "\\b.*"), "the source is without " + word);
        }
        due(!code.contains("->") && !code.contains("::"), "the source is without lambdas and method references");
        due(!code.contains("\""), "the source is without texts");
        for (int i = 0; i < source.length(); i++) {
            due(source.charAt(i) < 128, "sign " + i + " is plain");
        }
    }
}
