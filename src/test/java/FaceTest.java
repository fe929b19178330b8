import java.lang.reflect.Constructor;
import java.lang.reflect.Field;
import java.lang.reflect.Method;
import java.lang.reflect.Modifier;
import java.util.Arrays;
import java.util.TreeSet;

/** The document's face, and nothing beside it that others could see. */
public final class FaceTest {
    private static final String[] FACE = {
        "int object()",
        "int rule(int,int,int,int,int)",
        "int forget(int,int,boolean)",
        "int fork(int)",
        "int change(int,int,int,int)",
        "long attempt(int,int,int,int,int)",
        "int undo(int)",
        "int begin(int)",
        "int end(int,boolean)",
        "int member(int,int,int)",
        "long score(int,int)",
        "long worth(int,int,int)",
        "int check(int)",
        "int every(int)",
        "int mend(int,int)",
        "int keep(int)",
        "long kept(int,int)",
        "int then(int,int,int)",
        "int told(int,int)",
        "int all(int)",
    };

    public static void main(String[] args) throws Exception {
        Due due = new Due();
        due.is("NONE", ScoreDifferences.NONE, -1);
        due.is("STATE", ScoreDifferences.STATE, -3);
        due.is("FULL", ScoreDifferences.FULL, -4);
        Class<?> face = ScoreDifferences.class;
        due.holds("the class is public and final",
            Modifier.isPublic(face.getModifiers()) && Modifier.isFinal(face.getModifiers()));
        due.holds("no class above it but Object", face.getSuperclass() == Object.class);
        for (Constructor<?> made : face.getDeclaredConstructors()) {
            due.holds("constructor " + made, Modifier.isPublic(made.getModifiers()) && made.getParameterCount() == 0);
        }
        methods(due, face);
        fields(due, face);
        for (Class<?> inside : face.getDeclaredClasses()) {
            due.holds(inside + " is private or package-visible, and static",
                Modifier.isStatic(inside.getModifiers())
                    && !Modifier.isPublic(inside.getModifiers()) && !Modifier.isProtected(inside.getModifiers()));
        }
        due.finish();
    }

    private static void methods(Due due, Class<?> face) {
        TreeSet<String> seen = new TreeSet<>();
        for (Method method : face.getDeclaredMethods()) {
            if (!Modifier.isPrivate(method.getModifiers()) && !method.isSynthetic()) {
                due.holds(method + " is public and no static one",
                    Modifier.isPublic(method.getModifiers()) && !Modifier.isStatic(method.getModifiers()));
                seen.add(signature(method));
            }
        }
        TreeSet<String> wanted = new TreeSet<>(Arrays.asList(FACE));
        due.holds("methods are " + wanted + ", seen " + seen, seen.equals(wanted));
    }

    private static String signature(Method method) {
        StringBuilder text = new StringBuilder();
        for (Class<?> type : method.getParameterTypes()) {
            text.append(text.length() == 0 ? "" : ",").append(type.getName());
        }
        return method.getReturnType().getName() + " " + method.getName() + "(" + text + ")";
    }

    private static void fields(Due due, Class<?> face) {
        TreeSet<String> seen = new TreeSet<>();
        for (Field field : face.getDeclaredFields()) {
            if (!Modifier.isPrivate(field.getModifiers()) && !field.isSynthetic()) {
                seen.add(field.getName());
            }
        }
        due.holds("visible fields " + seen, seen.equals(new TreeSet<>(Arrays.asList("NONE", "STATE", "FULL"))));
    }
}
