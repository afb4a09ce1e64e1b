import java.lang.reflect.Constructor;
import java.lang.reflect.Field;
import java.lang.reflect.Method;
import java.lang.reflect.Modifier;
import java.util.Set;
import java.util.TreeSet;

/** The class has the document's face and nothing else that can be seen. */
public final class FaceTest {
    private static final String[] FACE = {
        "int node(int,int,int)", "void clear()", "int told(int,int)", "boolean set(int,int)", "int tick(int)",
        "int press()", "int state(int)", "int length(int)", "int at(int,int) throws NoSuchElementException",
        "int feed(int,int)", "boolean end(int)", "int word(int)", "int letter(int,int) throws NoSuchElementException",
        "int foreseen(int)", "int offered(int)", "int near(int,int)", "boolean share(int,int)", "int cost(int)",
        "long mean(int)", "int lay()", "int count(int)"};

    public static void main(String[] args) {
        Set<String> want = new TreeSet<>(Set.of(FACE));
        Set<String> names = new TreeSet<>();
        for (String s : FACE) {
            names.add(s.substring(s.indexOf(' ') + 1, s.indexOf('(')));
        }
        Set<String> got = new TreeSet<>();
        for (Method m : SwitchDesk.class.getDeclaredMethods()) {
            if (!Modifier.isPrivate(m.getModifiers())) {
                got.add(m.toString().replaceAll("public |SwitchDesk\\.|java\\.util\\.", ""));
            }
        }
        Check.due("methods", got.toString(), want.toString());
        Check.due("class", Modifier.toString(SwitchDesk.class.getModifiers()), "public final");
        Constructor<?>[] made = SwitchDesk.class.getDeclaredConstructors();
        Check.due("constructors", made.length, 1);
        Check.due("constructor", made[0].toString(), "public SwitchDesk()");
        for (Field f : SwitchDesk.class.getDeclaredFields()) {
            boolean open = !Modifier.isPrivate(f.getModifiers());
            Check.due("field " + f.getName(), open, f.getName().equals("NONE"));
            if (open) {
                Check.due("constant", f.toString(), "public static final int SwitchDesk.NONE");
            }
        }
        Check.due("NONE", SwitchDesk.NONE, -1);
        Check.due("classes inside, at most 11", SwitchDesk.class.getDeclaredClasses().length <= 11, true);
        for (Class<?> c : SwitchDesk.class.getDeclaredClasses()) {
            inside(c, names);
        }
        Check.close();
    }

    private static void inside(Class<?> c, Set<String> names) {
        Check.due(c + " is static", Modifier.isStatic(c.getModifiers()), true);
        Check.due(c + " is open", Modifier.isPublic(c.getModifiers()), false);
        for (Method m : c.getDeclaredMethods()) {
            Check.due(c + " names " + m.getName(), names.contains(m.getName()), false);
            Check.due(m + " parameters, at most 7", m.getParameterCount() <= 7, true);
        }
        Check.due(c + " fields, at most 20", c.getDeclaredFields().length <= 20, true);
    }
}
