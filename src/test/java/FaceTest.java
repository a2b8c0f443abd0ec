import java.lang.reflect.Constructor;
import java.lang.reflect.Field;
import java.lang.reflect.Member;
import java.lang.reflect.Method;
import java.lang.reflect.Modifier;
import java.util.Set;
import java.util.TreeSet;

/** The face is the document's, and nothing else can be seen from outside. */
public final class FaceTest {
    private static final Set<String> DUE = new TreeSet<>(Set.of(
            "public static final int CaseLists.NONE",
            "public CaseLists(int)",
            "public int CaseLists.fault(int,int) throws java.lang.IllegalArgumentException,java.lang.IllegalStateException",
            "public int CaseLists.act(int,int) throws java.lang.IllegalArgumentException,java.lang.IllegalStateException",
            "public boolean CaseLists.shows(int,int,boolean) throws java.lang.IllegalArgumentException",
            "public int CaseLists.way(int,int,int) throws java.lang.IllegalArgumentException",
            "public int CaseLists.change(int,int) throws java.lang.IllegalArgumentException",
            "public int CaseLists.result(int,int,int,boolean) throws java.lang.IllegalArgumentException,java.lang.IllegalStateException",
            "public int CaseLists.plan(int) throws java.lang.IllegalArgumentException",
            "public int CaseLists.planned(int) throws java.lang.IllegalArgumentException",
            "public int CaseLists.seconds()",
            "public int CaseLists.from(int) throws java.lang.IllegalArgumentException",
            "public int CaseLists.state(int,int) throws java.lang.IllegalArgumentException",
            "public int CaseLists.word(int,int,int) throws java.lang.IllegalArgumentException",
            "public int CaseLists.listed(int,int,int) throws java.lang.IllegalArgumentException",
            "public int CaseLists.hidden(int) throws java.lang.IllegalArgumentException",
            "public int CaseLists.proves(int,int) throws java.lang.IllegalArgumentException",
            "public int CaseLists.touched(int,int) throws java.lang.IllegalArgumentException"));

    public static void main(String[] args) {
        Set<String> seen = new TreeSet<>();
        Set<String> faceNames = new TreeSet<>();
        for (Field f : CaseLists.class.getDeclaredFields()) {
            see(seen, f, f.toString());
        }
        for (Constructor<?> c : CaseLists.class.getDeclaredConstructors()) {
            see(seen, c, c.toString());
        }
        for (Method m : CaseLists.class.getDeclaredMethods()) {
            see(seen, m, m.toString());
            if (Modifier.isPublic(m.getModifiers())) {
                faceNames.add(m.getName());
            }
        }
        Check.due("NONE", -1, () -> CaseLists.NONE);
        Check.due("the class is public and final", Modifier.PUBLIC | Modifier.FINAL, () -> CaseLists.class.getModifiers());
        for (String s : DUE) {
            Check.due("there is " + s, 1, () -> seen.contains(s) ? 1 : 0);
        }
        for (String s : seen) {
            Check.due("the document has " + s, 1, () -> DUE.contains(s) ? 1 : 0);
        }
        checkHiddenNames(faceNames);
        Check.end();
    }

    private static void see(Set<String> seen, Member member, String text) {
        if (!Modifier.isPrivate(member.getModifiers()) && !member.isSynthetic()) {
            seen.add(text);
        }
    }

    private static void checkHiddenNames(Set<String> faceNames) {
        for (Method m : CaseLists.class.getDeclaredMethods()) {
            boolean clash = Modifier.isPrivate(m.getModifiers()) && faceNames.contains(m.getName());
            Check.due("a private method has a name of its own: " + m.getName(), 0, () -> clash ? 1 : 0);
        }
        for (Class<?> inside : CaseLists.class.getDeclaredClasses()) {
            Check.due(inside.getName() + " is static", 1, () -> Modifier.isStatic(inside.getModifiers()) ? 1 : 0);
            for (Method m : inside.getDeclaredMethods()) {
                Check.due(inside.getName() + "." + m.getName() + " has a name of its own", 0,
                        () -> faceNames.contains(m.getName()) ? 1 : 0);
            }
        }
    }
}
