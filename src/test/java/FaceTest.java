import java.lang.reflect.Constructor;
import java.lang.reflect.Field;
import java.lang.reflect.Method;
import java.lang.reflect.Modifier;
import java.util.Arrays;
import java.util.Set;
import java.util.TreeSet;

/** The face is the document's, and nothing of the class can be seen beside it. */
public final class FaceTest {
    private static final String[] METHODS = ("paper/5 set/3 told/2 reel/2 where/1 steal/1 find/1 ward/1 loyal/3 demand/2 feed/5 order/2 "
        + "fault/0 force/1 tells/2 bid/3 parted/2 months/1 swap/3 netted/2 merge/2 gain/2 breach/2 source/3 borne/2 appeal/2 "
        + "alike/1 apart/2 grant/2 best/2 correct/3 row/4 count/1").split(" ");

    private static void say(boolean holds, String what) {
        if (!holds) Check.fails(what);
    }

    public static void main(String[] args) {
        Class<?> c = PaperBoard.class;
        say(Modifier.isPublic(c.getModifiers()) && Modifier.isFinal(c.getModifiers()), "public and final");
        Set<String> seen = new TreeSet<>();
        Set<String> names = new TreeSet<>();
        for (Method m : c.getDeclaredMethods()) {
            if (Modifier.isPrivate(m.getModifiers())) continue;
            say(Modifier.isPublic(m.getModifiers()) && m.getReturnType() == int.class, "method " + m);
            for (Class<?> t : m.getParameterTypes()) say(t == int.class, "method " + m);
            seen.add(m.getName() + "/" + m.getParameterCount());
            names.add(m.getName());
        }
        say(seen.equals(new TreeSet<>(Arrays.asList(METHODS))), "methods " + seen);
        for (Method m : c.getDeclaredMethods()) {
            say(!Modifier.isPrivate(m.getModifiers()) || !names.contains(m.getName()), "private method " + m);
        }
        Set<String> fields = new TreeSet<>();
        for (Field f : c.getDeclaredFields()) {
            if (!Modifier.isPrivate(f.getModifiers())) fields.add(f.toString());
            say(!Modifier.isStatic(f.getModifiers()) || Modifier.isFinal(f.getModifiers()), "static field " + f);
        }
        say(fields.toString().equals("[public static final int PaperBoard.NONE, public static final int PaperBoard.NOTHING]"), "fields " + fields);
        Constructor<?>[] made = c.getDeclaredConstructors();
        say(made.length == 1 && Modifier.isPublic(made[0].getModifiers()) && made[0].getParameterCount() == 0, "constructors");
        say(c.getDeclaredClasses().length <= 12, "classes");
        for (Class<?> inner : c.getDeclaredClasses()) {
            say(!Modifier.isPublic(inner.getModifiers()) && Modifier.isStatic(inner.getModifiers()), "class " + inner);
            say(inner.getDeclaredFields().length <= 24, "fields of " + inner);
        }
        Check.end("FaceTest");
    }
}
