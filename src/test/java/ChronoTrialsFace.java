import java.lang.reflect.Constructor;
import java.lang.reflect.Field;
import java.lang.reflect.Method;
import java.lang.reflect.Modifier;
import java.util.Set;
import java.util.TreeSet;

/** The public face is the document's and nothing more (LANGUAGE.md, rules 1 and 5). */
public final class ChronoTrialsFace {
    private static final String[] METHODS = {
        "int admit()", "boolean prize(int)", "boolean frost(int)", "int trial(int,int,int)", "int annul(int)",
        "int place(int)", "int tell(int,int)", "int ask(int,int,int,int,int)", "int count(int)",
    };

    private static int wrong = 0;

    public static void main(String[] args) {
        Class<?> face = ChronoTrials.class;
        check("the class is public and final", Modifier.isPublic(face.getModifiers())
            && Modifier.isFinal(face.getModifiers()));
        check("the class has no package", face.getPackageName().isEmpty());
        check("the class has the document's methods alone", seenMethods(face).equals(new TreeSet<>(Set.of(METHODS))));
        checkConstructors(face);
        checkFields(face);
        checkNamesOfPrivateMethods(face);
        System.out.println(wrong == 0 ? "the face is as due" : wrong + " things of the face are not as due");
        if (wrong != 0) {
            System.exit(1);
        }
    }

    private static Set<String> seenMethods(Class<?> face) {
        Set<String> seen = new TreeSet<>();
        for (Method m : face.getDeclaredMethods()) {
            if (!Modifier.isPrivate(m.getModifiers())) {
                check(m.getName() + " is public", Modifier.isPublic(m.getModifiers()));
                check(m.getName() + " is of the object", !Modifier.isStatic(m.getModifiers()));
                seen.add(m.getReturnType().getName() + " " + m.getName() + parameters(m));
            }
        }
        return seen;
    }

    private static String parameters(Method m) {
        StringBuilder text = new StringBuilder();
        for (Class<?> type : m.getParameterTypes()) {
            text.append(text.length() == 0 ? "" : ",").append(type.getName());
        }
        return "(" + text + ")";
    }

    private static void checkConstructors(Class<?> face) {
        Constructor<?>[] all = face.getDeclaredConstructors();
        check("one public constructor without parameters",
            all.length == 1 && Modifier.isPublic(all[0].getModifiers()) && all[0].getParameterCount() == 0);
    }

    private static void checkFields(Class<?> face) {
        for (Field f : face.getDeclaredFields()) {
            int modifiers = f.getModifiers();
            boolean isNone = f.getName().equals("NONE");
            check(f.getName() + " is private, or the constant NONE", isNone
                ? Modifier.isPublic(modifiers) && Modifier.isStatic(modifiers) && f.getType() == int.class
                : Modifier.isPrivate(modifiers));
            check(f.getName() + " is final if static", !Modifier.isStatic(modifiers) || Modifier.isFinal(modifiers));
        }
    }

    private static void checkNamesOfPrivateMethods(Class<?> face) {
        Set<String> open = new TreeSet<>();
        for (Method m : face.getMethods()) {
            open.add(m.getName());
        }
        for (Method m : face.getDeclaredMethods()) {
            check(m.getName() + " is no public method's name",
                !Modifier.isPrivate(m.getModifiers()) || !open.contains(m.getName()));
        }
    }

    private static void check(String what, boolean holds) {
        if (!holds) {
            wrong++;
            System.out.println("does not hold: " + what);
        }
    }
}
