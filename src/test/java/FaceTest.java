import java.lang.reflect.Constructor;
import java.lang.reflect.Field;
import java.lang.reflect.Method;
import java.lang.reflect.Modifier;
import java.util.Arrays;
import java.util.List;
import java.util.TreeSet;

/** 'The public face': every constant, the constructor, every method, and nothing else that is not private. */
public final class FaceTest extends Due {
    private static final List<String> METHODS = List.of("feed(int,long)", "pole()", "fault()", "told(int)", "slip(int)",
        "climber(int,int)", "go(int)", "soap(int,int,int)", "hang()", "begin()", "drift(int)", "order(int)",
        "forOne(int,int)", "rests(int)", "tower(int,int)", "list(int,int)", "tear()", "enough(int)", "judge()", "sand()",
        "seed(int)", "keep(int)", "goBack(int)");
    private static final List<String> CONSTANTS = List.of("NONE", "UNKNOWN", "OUTSIDE", "NOT", "FULL");

    private static String told(Method m) {
        StringBuilder s = new StringBuilder(m.getName()).append('(');
        for (Class<?> p : m.getParameterTypes()) {
            s.append(s.charAt(s.length() - 1) == '(' ? "" : ",").append(p.getName());
        }
        return s.append(')').toString();
    }

    private static void same(String what, TreeSet<String> got, List<String> want) {
        TreeSet<String> all = new TreeSet<>(want);
        due(what + " " + got + ", due are " + all, got.equals(all) ? 1 : 0, 1);
    }

    private static void methods() {
        says("The public face, the methods");
        TreeSet<String> got = new TreeSet<>();
        for (Method m : SoapPole.class.getDeclaredMethods()) {
            if (m.isSynthetic() || Modifier.isPrivate(m.getModifiers())) {
                continue;
            }
            got.add(told(m));
            due(m.getName() + " is public and answers an int", Modifier.isPublic(m.getModifiers())
                && !Modifier.isStatic(m.getModifiers()) && m.getReturnType() == int.class ? 1 : 0, 1);
            due("exceptions of " + m.getName(), m.getExceptionTypes().length, 0);
        }
        same("the methods", got, METHODS);
    }

    private static void constants() {
        says("The public face, the constants");
        TreeSet<String> got = new TreeSet<>();
        for (Field f : SoapPole.class.getDeclaredFields()) {
            if (!Modifier.isPrivate(f.getModifiers())) {
                got.add(f.getName());
                due(f.getName(), f.getModifiers(), Modifier.PUBLIC | Modifier.STATIC | Modifier.FINAL);
                due(f.getName() + " is an int", f.getType() == int.class ? 1 : 0, 1);
            }
        }
        same("the constants", got, CONSTANTS);
    }

    private static void constructor() {
        says("The public face, the class and its constructor");
        due("the class", SoapPole.class.getModifiers(), Modifier.PUBLIC | Modifier.FINAL);
        due("above it", SoapPole.class.getSuperclass() == Object.class ? 1 : 0, 1);
        due("interfaces " + Arrays.toString(SoapPole.class.getInterfaces()), SoapPole.class.getInterfaces().length, 0);
        Constructor<?>[] all = SoapPole.class.getDeclaredConstructors();
        due("constructors", all.length, 1);
        due("its arguments", all[0].getParameterCount(), 0);
        due("SoapPole()", all[0].getModifiers(), Modifier.PUBLIC);
        due("exceptions of SoapPole()", all[0].getExceptionTypes().length, 0);
    }

    public static void main(String[] args) {
        methods();
        constants();
        constructor();
        end();
    }
}
