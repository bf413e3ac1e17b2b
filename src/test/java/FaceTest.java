import java.lang.reflect.Constructor;
import java.lang.reflect.Field;
import java.lang.reflect.Method;
import java.lang.reflect.Modifier;
import java.util.ArrayList;
import java.util.Collections;
import java.util.List;

/** The public face is the document's, and no more. */
public final class FaceTest {
    private static final String[] FACE = {
        "int plant(int,int,boolean,boolean) IllegalArgumentException IllegalStateException",
        "int sign(int,boolean,boolean) IndexOutOfBoundsException",
        "int cannon(int,int,int) IllegalArgumentException IllegalStateException",
        "int load(int,int) IndexOutOfBoundsException IllegalArgumentException",
        "int gather(int,int,int) IllegalArgumentException IllegalStateException",
        "int setWind(int,int) IndexOutOfBoundsException IllegalArgumentException",
        "int vineyard(int,int) IndexOutOfBoundsException",
        "int about(int,int) IndexOutOfBoundsException",
        "int cloud(int,int) IndexOutOfBoundsException",
        "int count(int) IndexOutOfBoundsException",
        "int pass(int) IllegalArgumentException",
        "int hit(int) IndexOutOfBoundsException",
        "int foresee(int,int) IllegalArgumentException IndexOutOfBoundsException",
        "int advise(int,int) IndexOutOfBoundsException IllegalArgumentException",
        "int move(int,int) IndexOutOfBoundsException IllegalArgumentException",
        "double mean()",
        "long digest()",
    };

    public static void main(String[] args) {
        Class<?> face = HailLeague.class;
        Check.due("the class", "public final", Modifier.toString(face.getModifiers()));
        Check.due("its methods", expected(), methodsSeen(face));
        Check.due("its constructors", "public HailLeague()", constructorsSeen(face));
        Check.due("its fields seen from outside", "", fieldsSeen(face));
        for (Class<?> inside : face.getDeclaredClasses()) {
            int modifiers = inside.getModifiers();
            Check.due(inside + " is static", 1, Modifier.isStatic(modifiers) ? 1 : 0);
            Check.due(inside + " is not public or protected", 0,
                    Modifier.isPublic(modifiers) || Modifier.isProtected(modifiers) ? 1 : 0);
        }
        Check.end();
    }

    private static String expected() {
        List<String> all = new ArrayList<>(List.of(FACE));
        Collections.sort(all);
        return String.join("\n", all);
    }

    private static String methodsSeen(Class<?> face) {
        List<String> all = new ArrayList<>();
        for (Method m : face.getDeclaredMethods()) {
            if (m.isSynthetic() || Modifier.isPrivate(m.getModifiers())) {
                continue;
            }
            StringBuilder text = new StringBuilder();
            if (!Modifier.toString(m.getModifiers()).equals("public")) {
                text.append(Modifier.toString(m.getModifiers())).append(' ');
            }
            text.append(m.getReturnType().getSimpleName()).append(' ').append(m.getName());
            List<String> types = new ArrayList<>();
            for (Class<?> type : m.getParameterTypes()) {
                types.add(type.getSimpleName());
            }
            text.append('(').append(String.join(",", types)).append(')');
            for (Class<?> e : m.getExceptionTypes()) {
                text.append(' ').append(e.getSimpleName());
            }
            all.add(text.toString());
        }
        Collections.sort(all);
        return String.join("\n", all);
    }

    private static String constructorsSeen(Class<?> face) {
        List<String> all = new ArrayList<>();
        for (Constructor<?> c : face.getDeclaredConstructors()) {
            all.add(c.toString());
        }
        return String.join("\n", all);
    }

    private static String fieldsSeen(Class<?> face) {
        List<String> all = new ArrayList<>();
        for (Field f : face.getDeclaredFields()) {
            if (!Modifier.isPrivate(f.getModifiers())) {
                all.add(f.getName());
            }
        }
        return String.join("\n", all);
    }
}
