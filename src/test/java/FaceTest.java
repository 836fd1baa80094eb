import java.lang.reflect.Constructor;
import java.lang.reflect.Field;
import java.lang.reflect.Method;
import java.lang.reflect.Modifier;
import java.util.Arrays;
import java.util.List;
import java.util.Set;
import java.util.TreeSet;

/** The public face as the document prints it, and no other (LANGUAGE.md, rule 1). */
public final class FaceTest {
    private static final String[] FACE = {
        "int terms(int,int)", "int storm(int,int)", "int wed(int,int,int)", "int jilt(int)",
        "int feed(int,int,int,int,int)", "int end(int)", "int row()", "int spray()", "int law()", "int fault()",
        "int force(int)", "int goes(int,int,int)", "int of(int,int,int)", "int will(int,int,int)", "int oar(int)",
        "int unrow()", "int trail(int)", "int unwarned()", "int report(int,int,int)", "int burn(int)",
        "int could(int)", "int lies()", "long ways()", "int likely(int,int)", "int liars(int)",
        "int round(int,int,int,int)", "int reach(int,int,int)", "int guard(int,int,int,int)", "int sea(int,int)",
        "long search(int,int)", "int year(int,int)", "int drawn(int)", "int image(int)", "int back(int)",
        "int count(int)", "int status()"};
    private static int wrong = 0;

    private static void must(boolean is, String what) {
        if (!is) {
            wrong++;
            System.out.println("not so: " + what);
        }
    }

    public static void main(String[] args) {
        face();
        System.out.println(wrong == 0 ? "the face is as due" : wrong + " things are not as due");
        if (wrong != 0) {
            System.exit(1);
        }
    }

    private static void face() {
        Class<?> c = RedGlass.class;
        must(Modifier.isPublic(c.getModifiers()) && Modifier.isFinal(c.getModifiers()), "public final class");
        Set<String> methods = new TreeSet<>();
        Set<String> names = new TreeSet<>();
        for (Method m : c.getDeclaredMethods()) {
            if (Modifier.isPublic(m.getModifiers())) {
                StringBuilder text = new StringBuilder(m.getReturnType() + " " + m.getName() + "(");
                for (Class<?> p : m.getParameterTypes()) {
                    text.append(text.charAt(text.length() - 1) == '(' ? "" : ",").append(p);
                }
                methods.add(text + ")");
                names.add(m.getName());
                must(!Modifier.isStatic(m.getModifiers()), m + " is of the object");
            }
        }
        must(methods.equals(new TreeSet<>(List.of(FACE))), "the public methods " + methods);
        for (Class<?> inside : withInside(c)) {
            for (Method m : inside.getDeclaredMethods()) {
                boolean isPublic = Modifier.isPublic(m.getModifiers());
                must(isPublic || !names.contains(m.getName()), m + " bears no public name");
                must(inside != c || isPublic || m.isSynthetic() || Modifier.isPrivate(m.getModifiers()), m + " is private");
            }
        }
        must(c.getDeclaredConstructors().length == 1, "one constructor");
        for (Constructor<?> k : c.getDeclaredConstructors()) {
            must(Modifier.isPublic(k.getModifiers()) && k.getParameterCount() == 0, "the constructor");
        }
        for (Field f : c.getDeclaredFields()) {
            boolean isNone = f.getName().equals("NONE") && f.getType() == int.class;
            must(Modifier.isPublic(f.getModifiers()) == isNone, f + " is as public as it should be");
            must(isNone || Modifier.isPrivate(f.getModifiers()), f + " is private");
        }
    }

    private static List<Class<?>> withInside(Class<?> c) {
        Class<?>[] inside = c.getDeclaredClasses();
        Class<?>[] all = Arrays.copyOf(inside, inside.length + 1);
        all[inside.length] = c;
        return Arrays.asList(all);
    }
}
