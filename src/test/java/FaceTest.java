import java.lang.reflect.Constructor;
import java.lang.reflect.Field;
import java.lang.reflect.Member;
import java.lang.reflect.Method;
import java.lang.reflect.Modifier;
import java.util.Arrays;
import java.util.Set;
import java.util.TreeSet;

/** The class has the document's face, and nothing else can be seen of it. */
public final class FaceTest {
    private static final String SHARE_AND_WHAT = " throws IndexOutOfBoundsException IllegalArgumentException";

    private static final Set<String> FACE = Set.of(
            "int NONE",
            "IndexBureau()",
            "int set(int int int)" + SHARE_AND_WHAT,
            "int get(int int)" + SHARE_AND_WHAT,
            "void base(int int) throws IllegalArgumentException",
            "int members()",
            "int event(int int int int int)",
            "int close() throws IllegalStateException",
            "int outcome(int)",
            "int noted(int)",
            "int days()",
            "long published(int)",
            "long level()",
            "int weight(int)",
            "int print(int int)",
            "int character(int)",
            "int places(int)",
            "int check()");

    private static int wrong = 0;

    private static void fault(String text) {
        wrong++;
        System.out.println(text);
    }

    private static String names(Class<?>[] types) {
        StringBuilder text = new StringBuilder();
        for (Class<?> type : types) {
            text.append(text.length() == 0 ? "" : " ").append(type.getSimpleName());
        }
        return text.toString();
    }

    private static String thrown(Class<?>[] types) {
        return types.length == 0 ? "" : " throws " + names(types);
    }

    private static void collect(Set<String> seen, Member member, String text) {
        if (!Modifier.isPrivate(member.getModifiers()) && !member.isSynthetic()) {
            seen.add(text);
            if (!Modifier.isPublic(member.getModifiers())) {
                fault("neither public nor private: " + text);
            }
        }
    }

    private static void lookAtMembers() {
        Set<String> seen = new TreeSet<>();
        for (Field f : IndexBureau.class.getDeclaredFields()) {
            collect(seen, f, f.getType().getSimpleName() + " " + f.getName());
        }
        for (Constructor<?> c : IndexBureau.class.getDeclaredConstructors()) {
            collect(seen, c, "IndexBureau(" + names(c.getParameterTypes()) + ")" + thrown(c.getExceptionTypes()));
        }
        for (Method m : IndexBureau.class.getDeclaredMethods()) {
            collect(seen, m, m.getReturnType().getSimpleName() + " " + m.getName()
                    + "(" + names(m.getParameterTypes()) + ")" + thrown(m.getExceptionTypes()));
        }
        if (!seen.equals(new TreeSet<>(FACE))) {
            fault("the face is " + seen + ", due is " + new TreeSet<>(FACE));
        }
    }

    private static void lookAtClasses() {
        if (!Modifier.isFinal(IndexBureau.class.getModifiers())) {
            fault("the class is not final");
        }
        Set<String> publicNames = new TreeSet<>();
        Arrays.stream(IndexBureau.class.getMethods()).forEach(m -> publicNames.add(m.getName()));
        for (Class<?> inside : IndexBureau.class.getDeclaredClasses()) {
            int modifiers = inside.getModifiers();
            if (!Modifier.isStatic(modifiers) || Modifier.isPublic(modifiers) || Modifier.isProtected(modifiers)) {
                fault("a class inside that is not static, or seen outside: " + inside);
            }
            lookAtNames(inside, publicNames);
        }
        lookAtNames(IndexBureau.class, publicNames);
    }

    private static void lookAtNames(Class<?> type, Set<String> publicNames) {
        for (Method m : type.getDeclaredMethods()) {
            if (Modifier.isPrivate(m.getModifiers()) && publicNames.contains(m.getName())) {
                fault("a private method with a public one's name: " + m);
            }
        }
    }

    private static void lookAtStatics(Class<?> type) {
        for (Field f : type.getDeclaredFields()) {
            if (Modifier.isStatic(f.getModifiers()) && !Modifier.isFinal(f.getModifiers())) {
                fault("a static field that is not final: " + f);
            }
        }
    }

    public static void main(String[] args) {
        lookAtMembers();
        lookAtClasses();
        lookAtStatics(IndexBureau.class);
        Arrays.stream(IndexBureau.class.getDeclaredClasses()).forEach(FaceTest::lookAtStatics);
        System.out.println(wrong == 0 ? "the face is as due" : wrong + " faults of the face");
        if (wrong != 0) {
            System.exit(1);
        }
    }
}
