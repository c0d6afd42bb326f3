import java.lang.reflect.Constructor;
import java.lang.reflect.Field;
import java.lang.reflect.Method;
import java.lang.reflect.Modifier;
import java.util.Arrays;
import java.util.Set;
import java.util.TreeSet;

/** The public face of the document, and rule 1 of LANGUAGE.md. */
public final class FaceTest {
    private static final String FACE = "parish(int) miles(int,int,int) person(int,int,int) as(int,int) husband(int,int,int) "
            + "father(int,int) fact(int,int,int,int,int,int,int) doubt(int,boolean) forget() law(int,int,int,int) "
            + "ends(int,int) own(int,int,int) settlement(int,int,int) through(int,int,int) could(int,int,int) "
            + "question(int,int,int) order(int,int,int,int) appeal(int,int) ordered(int,int) costs(int) set(int,int) "
            + "list(int,int,int) earns(int,int) price(int,int) relief(int,int) week(int,int) rate(int,int) "
            + "sheet(int,int,int) put(int,int,int) copy(int,int,int,int,int) read(int) keep() back() told(int)";

    public static void main(String[] args) {
        Set<String> due = new TreeSet<>(Arrays.asList(FACE.split(" ")));
        Set<String> found = new TreeSet<>();
        Set<String> names = new TreeSet<>();
        for (Method m : PoorDesk.class.getDeclaredMethods()) {
            if (!Modifier.isPrivate(m.getModifiers())) {
                found.add(signature(m));
                names.add(m.getName());
                Due.holds(m + " is public, not static, and answers an int",
                        Modifier.isPublic(m.getModifiers()) && !Modifier.isStatic(m.getModifiers())
                        && m.getReturnType() == int.class);
            }
        }
        Due.holds("the methods are those of the document: " + found, found.equals(due));
        for (Method m : PoorDesk.class.getDeclaredMethods()) {
            Due.holds("no private method bears a public name: " + m,
                    !Modifier.isPrivate(m.getModifiers()) || !names.contains(m.getName()));
        }
        members();
        Due.end();
    }

    private static void members() {
        int modifiers = PoorDesk.class.getModifiers();
        Due.holds("the class is public and final", Modifier.isPublic(modifiers) && Modifier.isFinal(modifiers));
        Constructor<?>[] makers = PoorDesk.class.getDeclaredConstructors();
        Due.holds("one public constructor without parameters", makers.length == 1
                && Modifier.isPublic(makers[0].getModifiers()) && makers[0].getParameterCount() == 0);
        for (Field f : PoorDesk.class.getDeclaredFields()) {
            Due.holds("a private field: " + f, Modifier.isPrivate(f.getModifiers()));
            staticIsFinal(f);
        }
        for (Class<?> c : PoorDesk.class.getDeclaredClasses()) {
            Due.holds("a static class inside, not public: " + c, Modifier.isStatic(c.getModifiers())
                    && !Modifier.isPublic(c.getModifiers()) && !Modifier.isProtected(c.getModifiers()));
            Due.holds("at most some twenty fields: " + c, c.getDeclaredFields().length <= 20);
            for (Field f : c.getDeclaredFields()) {
                staticIsFinal(f);
            }
        }
        Due.holds("at most some twelve classes", PoorDesk.class.getDeclaredClasses().length <= 12);
    }

    private static void staticIsFinal(Field f) {
        Due.holds("static, so final: " + f,
                !Modifier.isStatic(f.getModifiers()) || Modifier.isFinal(f.getModifiers()));
    }

    private static String signature(Method m) {
        StringBuilder text = new StringBuilder(m.getName()).append('(');
        for (Class<?> type : m.getParameterTypes()) {
            text.append(text.charAt(text.length() - 1) == '(' ? "" : ",").append(type.getName());
        }
        return text.append(')').toString();
    }
}
