import java.lang.reflect.Constructor;
import java.lang.reflect.Field;
import java.lang.reflect.Method;
import java.lang.reflect.Modifier;
import java.util.Arrays;
import java.util.Set;
import java.util.TreeSet;

/** The public face is the document's, no less and no more (LANGUAGE.md, rules 1, 2, 5 and 11). */
public final class FaceTest {
    private static final String[] METHODS = {
        "feed(int,long)", "land()", "fault()", "told(int)", "road(int,int)", "far(int,int)",
        "post(int,int)", "arm(int,int,int)", "miles(int,int)", "turn(int,int)", "fell(int,int,boolean)",
        "paint(int,int,int)", "right(int)", "walk(int,int,int)", "way(int,int,int)", "seen(int,int,int)",
        "forget()", "fits(int)", "sure()", "quarrel(boolean)", "fewest()", "best(int)", "odds(int,int,int)",
        "needed(int)", "write(int,int,int,int)", "tear()", "judge()", "drift(int,int)", "seed(int)",
        "keep(int)", "goBack(int)"
    };
    private static final String[] CONSTANTS = {"NONE", "UNKNOWN", "OUTSIDE", "NOT", "FULL"};

    public static void main(String[] args) {
        Check.holds("public and final", Modifier.isPublic(TurnedPosts.class.getModifiers())
                && Modifier.isFinal(TurnedPosts.class.getModifiers()));
        methods();
        fields();
        constructors();
        classesInside();
        Check.end("FaceTest");
    }

    private static String nameOf(Method m) {
        StringBuilder b = new StringBuilder(m.getName()).append('(');
        for (Class<?> c : m.getParameterTypes()) {
            b.append(b.charAt(b.length() - 1) == '(' ? "" : ",").append(c.getName());
        }
        return b.append(')').toString();
    }

    private static void methods() {
        Set<String> open = new TreeSet<>();
        Set<String> plain = new TreeSet<>();
        for (Method m : TurnedPosts.class.getDeclaredMethods()) {
            if (!Modifier.isPrivate(m.getModifiers())) {
                open.add(nameOf(m));
                plain.add(m.getName());
                Check.holds(m + " answers an int", m.getReturnType() == int.class && Modifier.isPublic(m.getModifiers()));
            }
        }
        Check.holds("methods " + open, open.equals(new TreeSet<>(Arrays.asList(METHODS))));
        for (Method m : TurnedPosts.class.getDeclaredMethods()) {
            Check.holds(m + " has a name of its own", !Modifier.isPrivate(m.getModifiers()) || !plain.contains(m.getName()));
        }
        for (Class<?> c : TurnedPosts.class.getDeclaredClasses()) {
            for (Method m : c.getDeclaredMethods()) {
                Check.holds(m + " has a name of its own", !plain.contains(m.getName()));
                Check.holds(m + " takes few parameters", m.getParameterCount() <= 7);
            }
        }
    }

    private static void fields() {
        Set<String> open = new TreeSet<>();
        int own = 0;
        for (Field f : TurnedPosts.class.getDeclaredFields()) {
            int is = f.getModifiers();
            if (!Modifier.isPrivate(is)) {
                open.add(f.getName());
                Check.holds(f + " is a public constant", Modifier.isPublic(is) && Modifier.isStatic(is) && Modifier.isFinal(is)
                        && f.getType() == int.class);
            }
            Check.holds(f + " is final, if static", !Modifier.isStatic(is) || Modifier.isFinal(is));
            own += Modifier.isStatic(is) ? 0 : 1;
        }
        Check.holds("constants " + open, open.equals(new TreeSet<>(Arrays.asList(CONSTANTS))));
        Check.holds("fields of the class", own <= 20);
        Check.due("NONE", TurnedPosts.NONE, Check.NONE);
        Check.due("UNKNOWN", TurnedPosts.UNKNOWN, Check.UNKNOWN);
        Check.due("OUTSIDE", TurnedPosts.OUTSIDE, Check.OUTSIDE);
        Check.due("NOT", TurnedPosts.NOT, Check.NOT);
        Check.due("FULL", TurnedPosts.FULL, Check.FULL);
    }

    private static void constructors() {
        Constructor<?>[] all = TurnedPosts.class.getDeclaredConstructors();
        Check.due("constructors", all.length, 1);
        Check.holds("public, without parameters", Modifier.isPublic(all[0].getModifiers()) && all[0].getParameterCount() == 0);
    }

    private static void classesInside() {
        Class<?>[] inside = TurnedPosts.class.getDeclaredClasses();
        Check.holds("at most twelve classes", inside.length <= 11);
        for (Class<?> c : inside) {
            int is = c.getModifiers();
            Check.holds(c + " is static and not open", Modifier.isStatic(is) && !Modifier.isPublic(is) && !Modifier.isProtected(is));
            int own = 0;
            for (Field f : c.getDeclaredFields()) {
                Check.holds(f + " is final, if static", !Modifier.isStatic(f.getModifiers()) || Modifier.isFinal(f.getModifiers()));
                own += Modifier.isStatic(f.getModifiers()) ? 0 : 1;
            }
            Check.holds(c + " has few fields", own <= 20);
            Check.due(c + " holds no classes", c.getDeclaredClasses().length, 0);
        }
    }
}
