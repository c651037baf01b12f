import java.lang.reflect.Constructor;
import java.lang.reflect.Field;
import java.lang.reflect.Method;
import java.lang.reflect.Modifier;
import java.util.Set;
import java.util.TreeSet;

/** The face of the class is the document's, with nothing more to be seen (LANGUAGE.md, rule 1). */
public final class FaceTest {
    private static final Set<String> FACE = Set.of(
            "public static final int NONE",
            "public static final int MANY",
            "public ShadowArchive()",
            "public void size(int,int) throws IllegalArgumentException",
            "public int pixel(int,int,int) throws IndexOutOfBoundsException",
            "public int look(int,int,int) throws IndexOutOfBoundsException,IllegalStateException",
            "public void direction(int,int,int) throws IndexOutOfBoundsException,IllegalArgumentException",
            "public int shelf(int,int) throws IndexOutOfBoundsException,IllegalStateException",
            "public void project(int) throws IndexOutOfBoundsException,IllegalStateException",
            "public boolean drop(int) throws IndexOutOfBoundsException",
            "public int bin(int,int) throws IndexOutOfBoundsException,IllegalStateException",
            "public int put(int,int,int) throws IndexOutOfBoundsException,IllegalStateException",
            "public boolean enough(int) throws IllegalArgumentException",
            "public int rebuild(int) throws IllegalArgumentException,IllegalStateException",
            "public int about(int) throws IllegalArgumentException",
            "public boolean regenerate(int) throws IndexOutOfBoundsException,IllegalStateException",
            "public int audit()",
            "public int ghost(int,int,int) throws "
                    + "IllegalArgumentException,IndexOutOfBoundsException,IllegalStateException",
            "public void keep()",
            "public int add(boolean) throws IllegalStateException");

    public static void main(String[] args) {
        Checks checks = new Checks();
        Set<String> seen = new TreeSet<>();
        for (Field field : ShadowArchive.class.getDeclaredFields()) {
            note(seen, field.getModifiers(), field.toString());
        }
        for (Constructor<?> constructor : ShadowArchive.class.getDeclaredConstructors()) {
            note(seen, constructor.getModifiers(), constructor.toString());
        }
        Set<String> publicNames = new TreeSet<>();
        for (Method method : ShadowArchive.class.getDeclaredMethods()) {
            note(seen, method.getModifiers(), method.toString());
            if (Modifier.isPublic(method.getModifiers())) {
                publicNames.add(method.getName());
            }
        }
        for (String member : FACE) {
            checks.same("the face has " + member, true, seen.contains(member));
        }
        for (String member : seen) {
            checks.same("the document has " + member, true, FACE.contains(member));
        }
        checkPrivateNames(checks, publicNames);
        checks.same("the class is public and final", Modifier.PUBLIC | Modifier.FINAL,
                ShadowArchive.class.getModifiers());
        checks.end();
    }

    private static void note(Set<String> seen, int modifiers, String member) {
        if (!Modifier.isPrivate(modifiers)) {
            seen.add(member.replace("java.lang.", "").replace("ShadowArchive.", ""));
        }
    }

    private static void checkPrivateNames(Checks checks, Set<String> publicNames) {
        for (Method method : ShadowArchive.class.getDeclaredMethods()) {
            if (!Modifier.isPublic(method.getModifiers())) {
                checks.same(method + " has a name of its own", false, publicNames.contains(method.getName()));
            }
        }
        for (Class<?> inside : ShadowArchive.class.getDeclaredClasses()) {
            checks.same(inside + " is static", true, Modifier.isStatic(inside.getModifiers()));
            for (Method method : inside.getDeclaredMethods()) {
                checks.same(method + " has a name of its own", false, publicNames.contains(method.getName()));
            }
        }
    }
}
