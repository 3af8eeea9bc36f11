import java.lang.reflect.Constructor;
import java.lang.reflect.Field;
import java.lang.reflect.Member;
import java.lang.reflect.Method;
import java.lang.reflect.Modifier;
import java.util.Arrays;
import java.util.Set;
import java.util.TreeSet;

/** The public face: what it has, and that it has nothing more (rule 1 of the language). */
public final class FaceTest {
    private static final String[] FACE = {
        "int BAD", "int ILLFORMED", "int TOOLONG", "new()",
        "boolean put[int, int, int]", "boolean cut[int, int]", "boolean set[int, int, int]",
        "int encode[int]", "int decode[int]", "int length[int]", "int byteAt[int, int]",
        "int code[int, int]", "int cache[int, int]", "int windows[]", "boolean agrees[]",
    };

    public static void main(String[] args) {
        Set<String> seen = new TreeSet<>();
        Set<String> open = new TreeSet<>();
        Set<String> hidden = new TreeSet<>();
        for (Field f : DeltaWindows.class.getDeclaredFields()) {
            note(f, f.getType() + " " + f.getName(), seen);
            boolean constant = !Modifier.isStatic(f.getModifiers()) || Modifier.isFinal(f.getModifiers());
            Check.due("a static field is final: " + f.getName(), constant, true);
        }
        for (Constructor<?> c : DeltaWindows.class.getDeclaredConstructors()) {
            note(c, c.getParameterCount() == 0 ? "new()" : c.toString(), seen);
        }
        for (Method m : DeltaWindows.class.getDeclaredMethods()) {
            note(m, m.getReturnType() + " " + m.getName() + Arrays.toString(m.getParameterTypes()), seen);
            (Modifier.isPublic(m.getModifiers()) ? open : hidden).add(m.getName());
        }
        Set<String> due = new TreeSet<>(Arrays.asList(FACE));
        if (!seen.equals(due)) {
            System.out.println("the face is " + seen);
        }
        Check.due("the face is the document's", seen.equals(due), true);
        hidden.retainAll(open);
        Check.due("private methods with a public one's name", hidden.size(), 0);
        Check.due("the class is public and final",
                Modifier.isPublic(DeltaWindows.class.getModifiers()) && Modifier.isFinal(DeltaWindows.class.getModifiers()), true);
        for (Class<?> c : DeltaWindows.class.getDeclaredClasses()) {
            int how = c.getModifiers();
            Check.due("static: " + c.getName(), Modifier.isStatic(how), true);
            Check.due("private or package-visible: " + c.getName(), Modifier.isPublic(how) || Modifier.isProtected(how), false);
        }
        Check.due("BAD", DeltaWindows.BAD, -1);
        Check.due("ILLFORMED", DeltaWindows.ILLFORMED, -2);
        Check.due("TOOLONG", DeltaWindows.TOOLONG, -3);
        Check.end();
    }

    private static void note(Member member, String name, Set<String> seen) {
        if (!Modifier.isPrivate(member.getModifiers()) && !member.isSynthetic()) {
            Check.due("public: " + name, Modifier.isPublic(member.getModifiers()), true);
            seen.add(name);
        }
    }
}
