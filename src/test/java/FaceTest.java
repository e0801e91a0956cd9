import java.lang.reflect.Constructor;
import java.lang.reflect.Field;
import java.lang.reflect.Method;
import java.lang.reflect.Modifier;
import java.util.TreeSet;

/** The public face: every constant, constructor and method of the document, and no other one. */
public final class FaceTest {
    private static final String I = "IndexOutOfBoundsException";
    private static final String A = "IllegalArgumentException";
    private static final String S = "IllegalStateException";

    private static final String[] METHODS = {
        "makeRoom(int) throws " + I + " " + S,
        "line(int int int) throws " + A + " " + S,
        "writeMap(int int) throws " + I,
        "rooms() throws",
        "outerOf(int) throws " + I,
        "leadsTo(int int) throws " + I + " " + A,
        "seenAs(int int) throws " + I + " " + A,
        "seenByLeading(int int) throws " + I + " " + A,
        "fork(int) throws " + I + " " + S,
        "drop(int int) throws " + I + " " + A,
        "enter(int int) throws " + I,
        "setNumber(int int) throws " + I + " " + A,
        "processes() throws",
        "roomOf(int) throws " + I,
        "numberOf(int) throws " + I,
        "rightsIn(int int) throws " + I,
        "makeFile(int int) throws " + I + " " + A + " " + S,
        "handOver(int int int) throws " + I + " " + A,
        "open(int int boolean) throws " + I,
        "ownerSeenBy(int int) throws " + I,
        "files() throws",
        "refusals() throws",
        "lastRefusal() throws",
    };

    public static void main(String[] args) {
        int mods = RoomNumbers.class.getModifiers();
        Check.due("the class is public and final", 1,
                Modifier.isPublic(mods) && Modifier.isFinal(mods) ? 1 : 0);
        constants();
        constructors();
        methods();
        classesInside();
        Check.end();
    }

    private static void constants() {
        Check.due("NOBODY", 999, RoomNumbers.NOBODY);
        Check.due("NONE", -1, RoomNumbers.NONE);
        Check.due("ADMIN", 1, RoomNumbers.ADMIN);
        Check.due("CHOWN", 2, RoomNumbers.CHOWN);
        Check.due("OVERRIDE", 4, RoomNumbers.OVERRIDE);
        Check.due("SETNUMBER", 8, RoomNumbers.SETNUMBER);
        TreeSet<String> seen = new TreeSet<>();
        for (Field field : RoomNumbers.class.getDeclaredFields()) {
            if (!Modifier.isPrivate(field.getModifiers())) {
                seen.add(Modifier.toString(field.getModifiers()) + " " + field.getType() + " "
                        + field.getName());
            }
        }
        TreeSet<String> due = new TreeSet<>();
        for (String name : "NOBODY NONE ADMIN CHOWN OVERRIDE SETNUMBER".split(" ")) {
            due.add("public static final int " + name);
        }
        Check.due("the constants", due.toString(), seen.toString());
    }

    private static void constructors() {
        Constructor<?>[] all = RoomNumbers.class.getDeclaredConstructors();
        Check.due("constructors", 1, all.length);
        Check.due("it is public", 1, Modifier.isPublic(all[0].getModifiers()) ? 1 : 0);
        Check.due("it takes nothing", 0, all[0].getParameterCount());
    }

    private static void methods() {
        TreeSet<String> due = new TreeSet<>();
        TreeSet<String> names = new TreeSet<>();
        for (String method : METHODS) {
            due.add("public int " + method);
            names.add(method.substring(0, method.indexOf('(')));
        }
        TreeSet<String> seen = new TreeSet<>();
        for (Method method : RoomNumbers.class.getDeclaredMethods()) {
            if (!Modifier.isPrivate(method.getModifiers())) {
                seen.add(signature(method));
            } else {
                Check.due(method.getName() + " is no public name", 0,
                        names.contains(method.getName()) ? 1 : 0);
            }
        }
        Check.due("the methods", due.toString(), seen.toString());
    }

    private static String signature(Method method) {
        StringBuilder text = new StringBuilder(Modifier.toString(method.getModifiers()));
        text.append(' ').append(method.getReturnType()).append(' ').append(method.getName());
        text.append('(');
        String gap = "";
        for (Class<?> type : method.getParameterTypes()) {
            text.append(gap).append(type.getSimpleName());
            gap = " ";
        }
        text.append(") throws");
        for (Class<?> type : method.getExceptionTypes()) {
            text.append(' ').append(type.getSimpleName());
        }
        return text.toString();
    }

    private static void classesInside() {
        for (Class<?> inside : RoomNumbers.class.getDeclaredClasses()) {
            int mods = inside.getModifiers();
            Check.due(inside.getName() + " is static, and neither public nor protected", 1,
                    Modifier.isStatic(mods) && !Modifier.isPublic(mods)
                            && !Modifier.isProtected(mods) ? 1 : 0);
        }
    }

    private FaceTest() {
    }
}
