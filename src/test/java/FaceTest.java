import java.lang.reflect.Constructor;
import java.lang.reflect.Field;
import java.lang.reflect.Method;
import java.lang.reflect.Modifier;
import java.util.Collections;
import java.util.TreeSet;

/** The public face: the class, its constants, constructor and methods, and nothing more that can be seen. */
public final class FaceTest {
    private static final String FACE = "feed5 end1 out1 stroke1 take2 written1 fit3 erase4 meets3 area2 fill5 unfill2 "
            + "region2 paint3 colour3 sheet1 shown2 stretch3 told1 mark2 unmark0 match2 partner1 tween5 bone4 pivot2 "
            + "key3 angle2 at3 reach4 swing4 language0 letter1 speech0 mouth2 blink2 camera4 depth2 seen5 cutOff3 "
            + "wiggle4 node0 clear0 sample4 drawn2 film3 played3 flicker2 track2 mix1 count1";
    private static final Checks CHECKS = new Checks();

    public static void main(String[] args) {
        theClass();
        constants();
        constructors();
        methods();
        CHECKS.end();
    }

    private static void theClass() {
        CHECKS.due("the class", "public final class CartoonHouse", CartoonHouse.class.toGenericString());
        CHECKS.due("what it extends", "class java.lang.Object", CartoonHouse.class.getSuperclass().toString());
        CHECKS.due("how many interfaces it has", 0, CartoonHouse.class.getInterfaces().length);
    }

    private static void constants() {
        CHECKS.due("NONE", -1, CartoonHouse.NONE);
        CHECKS.due("STATE", -3, CartoonHouse.STATE);
        CHECKS.due("FULL", -4, CartoonHouse.FULL);
        CHECKS.due("OPEN", -5, CartoonHouse.OPEN);
        TreeSet<String> due = new TreeSet<>();
        for (String name : "NONE STATE FULL OPEN".split(" ")) {
            due.add("public static final int CartoonHouse." + name);
        }
        TreeSet<String> seen = new TreeSet<>();
        for (Field field : CartoonHouse.class.getDeclaredFields()) {
            if (!Modifier.isPrivate(field.getModifiers()) && !field.isSynthetic()) {
                seen.add(field.toString());
            }
        }
        CHECKS.due("fields", due.toString(), seen.toString());
    }

    private static void constructors() {
        TreeSet<String> seen = new TreeSet<>();
        for (Constructor<?> constructor : CartoonHouse.class.getDeclaredConstructors()) {
            if (!constructor.isSynthetic()) {
                seen.add(constructor.toString());
            }
        }
        CHECKS.due("constructors", "[public CartoonHouse()]", seen.toString());
    }

    private static void methods() {
        TreeSet<String> due = new TreeSet<>();
        TreeSet<String> names = new TreeSet<>();
        for (String name : FACE.split(" ")) {
            int many = name.charAt(name.length() - 1) - '0';
            names.add(name.substring(0, name.length() - 1));
            due.add("public int CartoonHouse." + name.substring(0, name.length() - 1) + "("
                    + String.join(",", Collections.nCopies(many, "int")) + ")");
        }
        TreeSet<String> seen = new TreeSet<>();
        for (Method method : CartoonHouse.class.getDeclaredMethods()) {
            if (!Modifier.isPrivate(method.getModifiers()) && !method.isSynthetic()) {
                seen.add(method.toString());
            } else if (names.contains(method.getName())) {
                CHECKS.due("a private method", "a name of its own", method.toString());
            }
        }
        CHECKS.due("how many calls there are, besides the constructor", 51, seen.size());
        CHECKS.due("methods", due.toString(), seen.toString());
    }
}
