import java.lang.reflect.Constructor;
import java.lang.reflect.Field;
import java.lang.reflect.Method;
import java.lang.reflect.Modifier;
import java.util.Arrays;
import java.util.TreeSet;

/** The public face is the document's, and nothing else of the class can be seen from outside. */
public final class FaceTest {
    private static final String[] FACE = {
        "public static final int RouteFrame.NONE",
        "public RouteFrame()",
        "public void RouteFrame.clear()",
        "public int RouteFrame.section(boolean) throws java.lang.IllegalStateException",
        "public int RouteFrame.route(int,int,int) throws java.lang.IndexOutOfBoundsException,"
                + "java.lang.IllegalArgumentException,java.lang.IllegalStateException",
        "public void RouteFrame.use(int,int,int) throws java.lang.IndexOutOfBoundsException,"
                + "java.lang.IllegalArgumentException,java.lang.IllegalStateException",
        "public int RouteFrame.request(int) throws java.lang.IndexOutOfBoundsException",
        "public int RouteFrame.cancel(int) throws java.lang.IndexOutOfBoundsException",
        "public boolean RouteFrame.occupy(int) throws java.lang.IndexOutOfBoundsException",
        "public boolean RouteFrame.vacate(int) throws java.lang.IndexOutOfBoundsException",
        "public boolean RouteFrame.move(int,int) throws java.lang.IndexOutOfBoundsException,"
                + "java.lang.IllegalArgumentException",
        "public void RouteFrame.breakPoints(int,boolean) throws java.lang.IndexOutOfBoundsException,"
                + "java.lang.IllegalArgumentException",
        "public void RouteFrame.tick(int) throws java.lang.IllegalArgumentException",
        "public boolean RouteFrame.off(int) throws java.lang.IndexOutOfBoundsException",
        "public boolean RouteFrame.clash(int,int) throws java.lang.IndexOutOfBoundsException",
        "public int RouteFrame.about(int,int) throws java.lang.IndexOutOfBoundsException,"
                + "java.lang.IllegalArgumentException",
        "public int RouteFrame.track(int,int) throws java.lang.IndexOutOfBoundsException,"
                + "java.lang.IllegalArgumentException",
    };

    public static void main(String[] args) {
        Class<?> face = RouteFrame.class;
        Check.is("final", Modifier.isFinal(face.getModifiers()), true);
        Check.is("public", Modifier.isPublic(face.getModifiers()), true);

        TreeSet<String> seen = new TreeSet<>();
        TreeSet<String> publicNames = new TreeSet<>();
        TreeSet<String> privateNames = new TreeSet<>();
        for (Constructor<?> constructor : face.getDeclaredConstructors()) {
            seen.add(constructor.toString());
        }
        for (Field field : face.getDeclaredFields()) {
            if (!Modifier.isPrivate(field.getModifiers())) {
                seen.add(field.toString());
            }
        }
        for (Method method : face.getDeclaredMethods()) {
            if (Modifier.isPrivate(method.getModifiers())) {
                privateNames.add(method.getName());
            } else {
                seen.add(method.toString());
                publicNames.add(method.getName());
            }
        }
        TreeSet<String> due = new TreeSet<>(Arrays.asList(FACE));
        Check.is("the face", String.join("\n", seen), String.join("\n", due));
        privateNames.retainAll(publicNames);
        Check.is("private methods that bear a public name", String.join(" ", privateNames), "");
        Check.end();
    }
}
