import java.lang.reflect.Constructor;
import java.lang.reflect.Field;
import java.lang.reflect.Method;
import java.lang.reflect.Modifier;
import java.util.Arrays;
import java.util.TreeSet;

/** The class shows just the document's face: nothing is missing and nothing else can be seen. */
public final class FaceTest {
    private static final String INDEX = " throws IndexOutOfBoundsException";
    private static final String ARGUMENT = " throws IllegalArgumentException";
    private static final String BOTH = " throws IllegalArgumentException,IndexOutOfBoundsException";

    private static final String[] FACE = {
        "public static final int NONE",
        "public ()",
        "public int file(int)" + ARGUMENT,
        "public boolean byteOf(int,int)" + BOTH,
        "public int close()",
        "public int root(int,int)" + INDEX,
        "public int proof(int,int,int)" + INDEX,
        "public boolean check(int)",
        "public int checked()",
        "public int approve(int,int,int)" + BOTH,
        "public int withdraw(int)" + INDEX,
        "public int serial(int)" + INDEX,
        "public int history(int,int,int)" + INDEX,
        "public int digest(int,int,int)" + INDEX,
        "public int growth(int,int,int)" + INDEX,
        "public boolean poke(int,int)" + INDEX,
        "public int changed(int,int)" + INDEX,
        "public int made()",
        "public void clearCheck()",
    };

    public static void main(String[] args) {
        TreeSet<String> due = new TreeSet<>(Arrays.asList(FACE));
        TreeSet<String> seen = visibleMembers();
        int wrong = 0;
        for (String member : due) {
            if (!seen.contains(member)) {
                wrong++;
                System.out.println("missing: " + member);
            }
        }
        for (String member : seen) {
            if (!due.contains(member)) {
                wrong++;
                System.out.println("not in the face: " + member);
            }
        }
        wrong += wrongShape();
        System.out.println(wrong == 0 ? "the face is as due" : wrong + " parts of the face are not as due");
        if (wrong != 0) {
            System.exit(1);
        }
    }

    private static int wrongShape() {
        int wrong = 0;
        int modifiers = ReleaseLeaves.class.getModifiers();
        if (!Modifier.isPublic(modifiers) || !Modifier.isFinal(modifiers)) {
            wrong++;
            System.out.println("the class is not public and final");
        }
        if (ReleaseLeaves.NONE != -1) {
            wrong++;
            System.out.println("NONE is " + ReleaseLeaves.NONE);
        }
        for (Class<?> inside : ReleaseLeaves.class.getDeclaredClasses()) {
            int inner = inside.getModifiers();
            if (Modifier.isPublic(inner) || Modifier.isProtected(inner) || !Modifier.isStatic(inner)) {
                wrong++;
                System.out.println("a class inside is open to others: " + inside);
            }
        }
        return wrong;
    }

    private static TreeSet<String> visibleMembers() {
        TreeSet<String> members = new TreeSet<>();
        for (Field field : ReleaseLeaves.class.getDeclaredFields()) {
            if (!Modifier.isPrivate(field.getModifiers())) {
                members.add(Modifier.toString(field.getModifiers()) + " " + field.getType() + " " + field.getName());
            }
        }
        for (Constructor<?> made : ReleaseLeaves.class.getDeclaredConstructors()) {
            if (!Modifier.isPrivate(made.getModifiers())) {
                members.add(Modifier.toString(made.getModifiers()) + " "
                        + signature("", made.getParameterTypes(), made.getExceptionTypes()));
            }
        }
        for (Method method : ReleaseLeaves.class.getDeclaredMethods()) {
            if (!Modifier.isPrivate(method.getModifiers())) {
                members.add(Modifier.toString(method.getModifiers()) + " " + method.getReturnType() + " "
                        + signature(method.getName(), method.getParameterTypes(), method.getExceptionTypes()));
            }
        }
        return members;
    }

    private static String signature(String name, Class<?>[] parameters, Class<?>[] exceptions) {
        String head = name + "(" + joined(parameters, false) + ")";
        return exceptions.length == 0 ? head : head + " throws " + joined(exceptions, true);
    }

    private static String joined(Class<?>[] types, boolean sorted) {
        String[] names = new String[types.length];
        for (int i = 0; i < types.length; i++) {
            names[i] = types[i].getSimpleName();
        }
        if (sorted) {
            Arrays.sort(names);
        }
        return String.join(",", names);
    }
}
