import java.lang.reflect.Constructor;
import java.lang.reflect.Field;
import java.lang.reflect.Member;
import java.lang.reflect.Method;
import java.lang.reflect.Modifier;
import java.util.Set;
import java.util.TreeSet;

/** The class's face is the document's and no more; its state is its own. */
public final class FaceTest {
    private static final String FACE = "int market(int,int,int,int); int weight(int); int weigh(int,int);"
        + " int hand(int,int); int ofHand(int,int); int tells(int,int,int); int alike(int,int); int finer(int,int);"
        + " int way(int,int,int,int); int noon(int,int,int); int gain(int,int,int,int,int);"
        + " int saying(int,int,int,int); int back(int); int untrue(); int leaves(int,int); int breaks(int,int);"
        + " int rows(int,int); int longest(int); int crowd(int); int measure(int,int);"
        + " int copies(int,int,int,int,int,int); int bestRow(int,int,int,int,int,int); int even(int,int);"
        + " long odds(int,int); int sheet(int,int,int); int lose(int); int put(int,int,int); long cell(int,int,int);"
        + " int copy(int,int,int,int,int); int tell(int); int shake(int); int as(int,int); int trace(); int fault();"
        + " int many(int)";

    public static void main(String[] args) {
        constants();
        methods();
        constructors();
        classes();
        Check.end("FaceTest");
    }

    private static void constants() {
        Check.due("UNKNOWN", ByHand.UNKNOWN, -1);
        Check.due("OUTSIDE", ByHand.OUTSIDE, -2);
        Check.due("STATE", ByHand.STATE, -3);
        Check.due("FULL", ByHand.FULL, -4);
        Check.due("NONE", ByHand.NONE, -9);
        Check.due("LOST", ByHand.LOST, Long.MIN_VALUE);
        Set<String> open = new TreeSet<>();
        for (Field field : ByHand.class.getDeclaredFields()) {
            if (!Modifier.isPrivate(field.getModifiers())) {
                Check.holds(field + " is public", Modifier.isPublic(field.getModifiers()));
                open.add(field.getType() + " " + field.getName());
            }
            Check.holds(field + " is final if it is static", isFinalIfStatic(field));
        }
        Check.holds("the open constants are " + open, open.equals(Set.of("int UNKNOWN", "int OUTSIDE", "int STATE",
            "int FULL", "int NONE", "long LOST")));
    }

    private static boolean isFinalIfStatic(Member field) {
        return !Modifier.isStatic(field.getModifiers()) || Modifier.isFinal(field.getModifiers());
    }

    private static void methods() {
        Set<String> due = new TreeSet<>();
        Set<String> names = new TreeSet<>();
        for (String call : FACE.split("; ")) {
            due.add(call);
            names.add(call.substring(call.indexOf(' ') + 1, call.indexOf('(')));
        }
        Set<String> open = new TreeSet<>();
        for (Method method : ByHand.class.getDeclaredMethods()) {
            if (!Modifier.isPrivate(method.getModifiers())) {
                Check.due(method + " is public, not static", method.getModifiers(), Modifier.PUBLIC);
                open.add(signature(method));
            } else {
                Check.holds(method + " has a name of its own", !names.contains(method.getName()));
            }
        }
        Check.holds("the open methods are " + open, open.equals(due));
    }

    private static String signature(Method method) {
        StringBuilder text = new StringBuilder(method.getReturnType() + " " + method.getName() + "(");
        for (Class<?> type : method.getParameterTypes()) {
            text.append(text.charAt(text.length() - 1) == '(' ? "" : ",").append(type);
        }
        return text.append(")").toString();
    }

    private static void constructors() {
        Constructor<?>[] made = ByHand.class.getDeclaredConstructors();
        Check.due("constructors", made.length, 1);
        Check.due("its parameters", made[0].getParameterCount(), 0);
        Check.holds("it is public", Modifier.isPublic(made[0].getModifiers()));
    }

    private static void classes() {
        Check.due("public final", ByHand.class.getModifiers(), Modifier.PUBLIC | Modifier.FINAL);
        Check.holds("some twelve classes", ByHand.class.getDeclaredClasses().length < 12);
        for (Class<?> inner : ByHand.class.getDeclaredClasses()) {
            int kind = inner.getModifiers();
            Check.holds(inner + " is static", Modifier.isStatic(kind));
            Check.holds(inner + " is not open", !Modifier.isPublic(kind) && !Modifier.isProtected(kind));
            for (Field field : inner.getDeclaredFields()) {
                Check.holds(field + " is final if it is static", isFinalIfStatic(field));
            }
        }
    }
}
