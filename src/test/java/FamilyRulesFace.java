import java.lang.reflect.Constructor;
import java.lang.reflect.Field;
import java.lang.reflect.Method;
import java.lang.reflect.Modifier;
import java.util.Arrays;
import java.util.HashSet;
import java.util.Set;
import java.util.TreeSet;

/** The class's face is the document's, and what lies inside keeps to the rules on members of LANGUAGE.md. */
public final class FamilyRulesFace {
    private static final String[] FACE = {
        "public static final int NONE", "public FamilyRules()", "public int leaf(int,int,int)", "public int apply(int,int)",
        "public int binder(int,int,int,int)", "public int axiom()", "public int family(int,int,int)",
        "public int constructor(int,int)", "public int about(int,int)", "public int positive(int,int,int)",
        "public int brings(int,int)", "public int size(int)", "public int type(int,int)", "public int terms()",
        "public int part(int,int,int)"
    };

    private static int wrong = 0;

    private static void due(String what, Object got, Object want) {
        if (!got.equals(want)) {
            wrong++;
            System.out.println(what + " is " + got + ", due is " + want);
        }
    }

    private static String row(Class<?>[] types) {
        StringBuilder text = new StringBuilder("(");
        for (int i = 0; i < types.length; i++) {
            text.append(i == 0 ? "" : ",").append(types[i].getSimpleName());
        }
        return text.append(")").toString();
    }

    private static Set<String> seenFromOutside(Class<?> c) {
        Set<String> seen = new TreeSet<>();
        for (Field f : c.getDeclaredFields()) {
            if (!Modifier.isPrivate(f.getModifiers())) {
                seen.add(Modifier.toString(f.getModifiers()) + " " + f.getType().getSimpleName() + " " + f.getName());
            }
        }
        for (Constructor<?> k : c.getDeclaredConstructors()) {
            if (!Modifier.isPrivate(k.getModifiers())) {
                seen.add(Modifier.toString(k.getModifiers()) + " " + c.getSimpleName() + row(k.getParameterTypes()));
            }
        }
        for (Method m : c.getDeclaredMethods()) {
            if (!Modifier.isPrivate(m.getModifiers())) {
                seen.add(Modifier.toString(m.getModifiers()) + " " + m.getReturnType().getSimpleName() + " " + m.getName()
                        + row(m.getParameterTypes()));
            }
        }
        return seen;
    }

    private static void checkMembers(Class<?> c, Set<String> faceNames) {
        int fields = 0;
        for (Field f : c.getDeclaredFields()) {
            boolean fixed = Modifier.isStatic(f.getModifiers());
            due(c.getSimpleName() + "." + f.getName() + " static and not final",
                    fixed && !Modifier.isFinal(f.getModifiers()), false);
            fields += fixed ? 0 : 1;
        }
        due(c.getSimpleName() + " with more than twenty fields", fields > 20, false);
        for (Method m : c.getDeclaredMethods()) {
            String name = c.getSimpleName() + "." + m.getName();
            due(name + " with more than seven parameters", m.getParameterCount() > 7, false);
            due(name + " with a name of the face",
                    Modifier.isPrivate(m.getModifiers()) && faceNames.contains(m.getName()), false);
        }
    }

    public static void main(String[] args) {
        Class<?> c = FamilyRules.class;
        due("the face", seenFromOutside(c), new TreeSet<>(Arrays.asList(FACE)));
        due("public and final", Modifier.toString(c.getModifiers()), "public final");
        due("the package", c.getPackageName(), "");
        Set<String> faceNames = new HashSet<>();
        for (Method m : c.getDeclaredMethods()) {
            if (Modifier.isPublic(m.getModifiers())) {
                faceNames.add(m.getName());
            }
        }
        checkMembers(c, faceNames);
        for (Class<?> inside : c.getDeclaredClasses()) {
            due(inside.getSimpleName() + " static", Modifier.isStatic(inside.getModifiers()), true);
            due(inside.getSimpleName() + " public", Modifier.isPublic(inside.getModifiers()), false);
            checkMembers(inside, faceNames);
        }
        due("more than twelve classes", c.getDeclaredClasses().length > 12, false);
        System.out.println(wrong == 0 ? "the face is as due" : wrong + " things are not as due");
        if (wrong != 0) {
            System.exit(1);
        }
    }
}
