import java.lang.reflect.Constructor;
import java.lang.reflect.Field;
import java.lang.reflect.Method;
import java.lang.reflect.Modifier;
import java.util.ArrayList;
import java.util.Arrays;
import java.util.List;
import java.util.TreeSet;

/** The public face is that of the document, and nothing more. */
public final class FaceTest {
    private static final String[] FACE = {
        "int row(int, int)", "int lay(int, int, int)", "int at(int, int)", "int tear(int)",
        "int copy(int, int, int, int, int)", "int mean(int)", "int text(int, int)", "int put(int, int, int)",
        "int fault(int)", "int world(int)", "int wears(int, int)", "int grows(int)", "int indoors()",
        "int price(int, int)", "int monday(int, int, int)", "int hung(int, int, int)", "int told(int, int)",
        "int back(int)", "int hangs(int, int, int)", "int explains(int, int)", "int lacks(int, int)",
        "int fewest(int)", "int bound(int)", "int many(int, int)", "int step(int, int)", "int plain()",
        "int tale(int)", "int ways()", "int sure(int, int)", "int share(int, int, int)", "int through(int, int)",
        "int rival(int)", "int happen(int, int, int, int)", "int event(int, int)", "int mark(int, int)",
        "int household(int)", "int judge()", "int doubts(int)", "int least()", "int see(int)", "int asked()",
        "long tales()", "long upper()", "long lower()", "int count(int)", "int finding()", "int findings(int)",
        "long digest()"
    };

    public static void main(String[] args) {
        int mods = WashLine.class.getModifiers();
        Check.holds("the class is public and final", Modifier.isPublic(mods) && Modifier.isFinal(mods));
        Check.holds("the class has no package", WashLine.class.getPackageName().isEmpty());
        methods();
        fields();
        constructors();
        classes();
        Check.end();
    }

    private static String told(Method method) {
        StringBuilder b = new StringBuilder();
        b.append(method.getReturnType().getName()).append(' ').append(method.getName()).append('(');
        for (Class<?> type : method.getParameterTypes()) {
            b.append(b.charAt(b.length() - 1) == '(' ? "" : ", ").append(type.getName());
        }
        return b.append(')').toString();
    }

    private static void methods() {
        TreeSet<String> due = new TreeSet<>(Arrays.asList(FACE));
        TreeSet<String> got = new TreeSet<>();
        for (Method method : WashLine.class.getDeclaredMethods()) {
            if (Modifier.isPrivate(method.getModifiers())) {
                continue;
            }
            got.add(told(method));
            Check.holds(method + " is public, no more", method.getModifiers() == Modifier.PUBLIC);
        }
        Check.holds("methods " + got, got.equals(due));
    }

    private static void fields() {
        List<String> got = new ArrayList<>();
        for (Field field : WashLine.class.getDeclaredFields()) {
            int mods = field.getModifiers();
            if (!Modifier.isPrivate(mods)) {
                got.add(field.getName());
                Check.due(field.getName(), mods, Modifier.PUBLIC | Modifier.STATIC | Modifier.FINAL);
                Check.holds(field.getName() + " is an int", field.getType() == int.class);
            }
        }
        Check.holds("constants " + got, got.equals(List.of("BAD", "FULL", "FINDING", "STATE", "SPENT", "NONE")));
    }

    private static void constructors() {
        Constructor<?>[] all = WashLine.class.getDeclaredConstructors();
        Check.due("constructors", all.length, 1);
        Check.due("the constructor is public", all[0].getModifiers(), Modifier.PUBLIC);
        Check.due("the constructor takes nothing", all[0].getParameterCount(), 0);
    }

    /** LANGUAGE.md 1, 5, 11: classes inside are few, static, not public; static fields are final. */
    private static void classes() {
        TreeSet<String> names = new TreeSet<>();
        for (Method method : WashLine.class.getDeclaredMethods()) {
            if (Modifier.isPublic(method.getModifiers())) {
                names.add(method.getName());
            }
        }
        Class<?>[] inside = WashLine.class.getDeclaredClasses();
        Check.holds("at most twelve classes", inside.length < 12);
        List<Class<?>> all = new ArrayList<>(Arrays.asList(inside));
        all.add(WashLine.class);
        for (Class<?> each : all) {
            int mods = each.getModifiers();
            Check.holds(each + " is static", each == WashLine.class || Modifier.isStatic(mods));
            Check.holds(each + " is not public", each == WashLine.class || !Modifier.isPublic(mods));
            int fields = 0;
            for (Field field : each.getDeclaredFields()) {
                boolean isStatic = Modifier.isStatic(field.getModifiers());
                Check.holds(field + " is final", !isStatic || Modifier.isFinal(field.getModifiers()));
                fields += isStatic ? 0 : 1;
            }
            Check.holds(each + " has at most twenty fields", fields <= 20);
            for (Method method : each.getDeclaredMethods()) {
                boolean face = each == WashLine.class && Modifier.isPublic(method.getModifiers());
                Check.holds(method + " bears no public name", face || !names.contains(method.getName()));
                Check.holds(method + " takes at most seven", method.getParameterCount() <= 7);
            }
        }
    }
}
