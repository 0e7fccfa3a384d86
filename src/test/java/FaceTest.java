import java.lang.reflect.Constructor;
import java.lang.reflect.Field;
import java.lang.reflect.Method;
import java.lang.reflect.Modifier;
import java.util.Arrays;
import java.util.Set;
import java.util.TreeSet;

/** The public face: these members, and no other that a caller can see. */
public final class FaceTest {
    private static final String FACE = "int feed(int,int,int,int,int); int text(int); int fault(int); int named(int,int);"
            + " int look(int,int); int tavern(int,int); int verse(int,int); int pitch(int,int,int); int due(int,int,int);"
            + " int sounds(int,int,int); int bids(int,int); int cracks(int); int redeem(int,int,int); int undo();"
            + " int sings(int,int); int bar(int,int); int sunday(); int best(int,int); int chosen(int,int,int);"
            + " int sold(int,int,int); int easter(int); int hum(int); int strike(int); boolean known(int); int thieves();"
            + " int odds(int,int); int gang(); int round(int,int,int,int); int entry(int,int,int,int,int); int run(int,int);"
            + " int pay(int); long whole(int,int,int); int keep(); int back(); int count(int)";

    public static void main(String[] args) throws ReflectiveOperationException {
        Set<String> want = new TreeSet<>(Arrays.asList(FACE.split("; ?")));
        Set<String> got = new TreeSet<>();
        Set<String> names = new TreeSet<>();
        for (Method method : RansomHymn.class.getDeclaredMethods()) {
            if (!Modifier.isPrivate(method.getModifiers())) {
                got.add(signature(method));
                names.add(method.getName());
                Check.isTrue(method + " is public", Modifier.isPublic(method.getModifiers()));
            }
        }
        Check.same("methods", want.size(), 35);
        Check.isTrue("the methods are " + got, got.equals(want));
        for (Class<?> inside : RansomHymn.class.getDeclaredClasses()) {
            Check.isTrue(inside + " is static", Modifier.isStatic(inside.getModifiers()));
            Check.isTrue(inside + " isn't public", !Modifier.isPublic(inside.getModifiers()));
            for (Method method : inside.getDeclaredMethods()) {
                Check.isTrue(method + " has a name of its own", !names.contains(method.getName()));
            }
        }
        for (Method method : RansomHymn.class.getDeclaredMethods()) {
            boolean isHidden = Modifier.isPrivate(method.getModifiers());
            Check.isTrue(method + " has a name of its own", !isHidden || !names.contains(method.getName()));
        }
        for (Field field : RansomHymn.class.getDeclaredFields()) {
            Check.isTrue(field + " is hidden", Modifier.isPrivate(field.getModifiers()) || field.getName().equals("NONE"));
        }
        for (Constructor<?> constructor : RansomHymn.class.getDeclaredConstructors()) {
            Check.same("parameters of a constructor", constructor.getParameterCount(), 0);
        }
        Check.isTrue("final", Modifier.isFinal(RansomHymn.class.getModifiers()));
        Check.same("NONE", RansomHymn.class.getField("NONE").getInt(null), -1);
        Check.end("FaceTest");
    }

    private static String signature(Method method) {
        StringBuilder text = new StringBuilder();
        for (Class<?> type : method.getParameterTypes()) {
            text.append(text.length() == 0 ? "" : ",").append(type.getName());
        }
        return method.getReturnType().getName() + " " + method.getName() + "(" + text + ")";
    }
}
