import java.lang.reflect.Constructor;
import java.lang.reflect.Field;
import java.lang.reflect.Method;
import java.lang.reflect.Modifier;
import java.util.TreeSet;

/** The public face is that of the document and nothing more. */
public final class FaceTest {
    public static void main(String[] args) {
        TreeSet<String> due = new TreeSet<>();
        due.add("int poke(int,int)");
        due.add("boolean fill(int,long)");
        due.add("boolean region(int,int,int,int)");
        due.add("boolean settings(boolean,int,int,int)");
        due.add("boolean begin(int,boolean,int,int)");
        due.add("boolean set(int,int)");
        due.add("boolean interrupt(int)");
        due.add("int run(int)");
        due.add("int word(int)");
        due.add("int register(int)");
        due.add("int kind(int)");
        TreeSet<String> found = new TreeSet<>();
        for (Method m : TwoWorlds.class.getDeclaredMethods()) {
            if (!Modifier.isPrivate(m.getModifiers()) && !m.isSynthetic()) {
                Check.no(m + " is static", Modifier.isStatic(m.getModifiers()));
                found.add(signature(m));
            }
        }
        Check.yes("the methods " + found, found.equals(due));
        for (Field f : TwoWorlds.class.getDeclaredFields()) {
            Check.yes(f + " is private", Modifier.isPrivate(f.getModifiers()) || f.isSynthetic());
        }
        Constructor<?>[] constructors = TwoWorlds.class.getDeclaredConstructors();
        Check.same("constructors", constructors.length, 1);
        Check.same("parameters of the constructor", constructors[0].getParameterCount(), 0);
        Check.yes("public constructor", Modifier.isPublic(constructors[0].getModifiers()));
        Check.yes("final class", Modifier.isFinal(TwoWorlds.class.getModifiers()));
        Check.end();
    }

    private static String signature(Method m) {
        StringBuilder text = new StringBuilder();
        text.append(m.getReturnType().getName()).append(' ').append(m.getName()).append('(');
        String comma = "";
        for (Class<?> type : m.getParameterTypes()) {
            text.append(comma).append(type.getName());
            comma = ",";
        }
        return text.append(')').toString();
    }
}
