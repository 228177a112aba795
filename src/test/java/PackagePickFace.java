import java.lang.reflect.Constructor;
import java.lang.reflect.Field;
import java.lang.reflect.Member;
import java.lang.reflect.Method;
import java.lang.reflect.Modifier;
import java.util.Arrays;
import java.util.Set;
import java.util.TreeSet;

/** The public face is the document's, no more and no less, and nothing beside it can be seen. */
public final class PackagePickFace {
    private static final String[] FACE = {
        "public PackagePick()",
        "public static final int PackagePick.NONE",
        "public boolean PackagePick.version(int,int)",
        "public boolean PackagePick.need(int,int,int,int,int)",
        "public boolean PackagePick.drop(int,int)",
        "public boolean PackagePick.ban(int,int,int,int)",
        "public boolean PackagePick.ask(int,int,int)",
        "public boolean PackagePick.take(int)",
        "public int PackagePick.solve(int) throws java.lang.IllegalArgumentException,java.lang.IllegalStateException",
        "public int PackagePick.keep()",
        "public int PackagePick.chosen(int)",
        "public int PackagePick.many()",
        "public int PackagePick.can(int)",
        "public int PackagePick.core(int) throws java.util.NoSuchElementException",
        "public int PackagePick.count(int)",
    };

    public static void main(String[] args) {
        Set<String> seen = new TreeSet<>();
        Set<String> publicNames = new TreeSet<>();
        for (Constructor<?> c : PackagePick.class.getDeclaredConstructors()) {
            see(seen, c, c.toString());
        }
        for (Field f : PackagePick.class.getDeclaredFields()) {
            see(seen, f, f.toString());
        }
        for (Method m : PackagePick.class.getDeclaredMethods()) {
            see(seen, m, m.toString());
            if (Modifier.isPublic(m.getModifiers())) {
                publicNames.add(m.getName());
            }
        }
        for (Method m : PackagePick.class.getDeclaredMethods()) {
            if (Modifier.isPrivate(m.getModifiers()) && publicNames.contains(m.getName())) {
                seen.add("a private method with a public one's name: " + m);
            }
        }
        for (Class<?> inside : PackagePick.class.getDeclaredClasses()) {
            int modifiers = inside.getModifiers();
            if (!Modifier.isStatic(modifiers) || Modifier.isPublic(modifiers) || Modifier.isProtected(modifiers)) {
                seen.add("a class inside that is not static or can be seen: " + inside);
            }
        }
        if (!Modifier.isFinal(PackagePick.class.getModifiers()) || !Modifier.isPublic(PackagePick.class.getModifiers())) {
            seen.add("a class that is not public and final");
        }
        Set<String> due = new TreeSet<>(Arrays.asList(FACE));
        boolean same = seen.equals(due);
        System.out.println(same ? "the face is as due" : "the face is " + seen + ", due is " + due);
        if (!same) {
            System.exit(1);
        }
    }

    private static void see(Set<String> seen, Member member, String text) {
        if (!Modifier.isPrivate(member.getModifiers()) && !member.isSynthetic()) {
            seen.add(text);
        }
    }
}
