import java.lang.reflect.Constructor;
import java.lang.reflect.Field;
import java.lang.reflect.Method;
import java.lang.reflect.Modifier;
import java.util.Set;
import java.util.TreeSet;

/** The public face: just the constants, the constructor and the methods of the document. */
public final class FaceTest {
    private static final String[] METHODS = {
        "int add(int,int,int,int)", "int remove(int)", "int part(int,int)", "int parts()",
        "int setLoss(int)", "int setThreshold(int)", "int type(int)", "int clear()", "int read()",
        "int shoot(int,int,int)", "int hits()", "long hit(int,int)", "int rays()",
        "int coverage()", "int gap()", "long heard(int,int)", "int echo(int)", "float mean()",
        "int crossings(int)", "int time(int)", "int caustic(int)", "int order(int)",
        "int turns(int)", "int aim(int,int,int)", "int widest(int)", "int undo()",
        "long fingerprint()"};

    public static void main(String[] args) {
        Due.same("BAD", GalleryRays.BAD, -100001);
        Due.same("FULL", GalleryRays.FULL, -100003);
        Due.same("NONE", GalleryRays.NONE, -100009);
        Set<String> due = new TreeSet<>(Set.of(METHODS));
        Set<String> seen = new TreeSet<>();
        for (Method method : GalleryRays.class.getDeclaredMethods()) {
            if (!Modifier.isPrivate(method.getModifiers())) {
                seen.add(told(method));
                Due.holds(method + " is public", Modifier.isPublic(method.getModifiers()));
                Due.holds(method + " is not static", !Modifier.isStatic(method.getModifiers()));
            }
        }
        Due.holds("the methods " + seen + " are " + due, seen.equals(due));
        Set<String> constants = new TreeSet<>();
        for (Field field : GalleryRays.class.getDeclaredFields()) {
            if (!Modifier.isPrivate(field.getModifiers())) {
                constants.add(Modifier.toString(field.getModifiers()) + " " + field.getName());
            }
        }
        Due.holds("the constants " + constants, constants.equals(Set.of(
                "public static final BAD", "public static final FULL",
                "public static final NONE")));
        Constructor<?>[] constructors = GalleryRays.class.getDeclaredConstructors();
        Due.same("constructors", constructors.length, 1);
        Due.same("parameters of the constructor", constructors[0].getParameterCount(), 0);
        Due.holds("the constructor is public", Modifier.isPublic(constructors[0].getModifiers()));
        Due.holds("the class is final", Modifier.isFinal(GalleryRays.class.getModifiers()));
        Due.finish();
    }

    private static String told(Method method) {
        StringBuilder told = new StringBuilder();
        told.append(method.getReturnType().getName()).append(' ').append(method.getName());
        String comma = "(";
        for (Class<?> type : method.getParameterTypes()) {
            told.append(comma).append(type.getName());
            comma = ",";
        }
        return told.append(comma.equals("(") ? "()" : ")").toString();
    }
}
