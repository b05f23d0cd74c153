import java.lang.reflect.Constructor;
import java.lang.reflect.Field;
import java.lang.reflect.Method;
import java.lang.reflect.Modifier;
import java.util.Arrays;
import java.util.TreeSet;

/** The public face: constants, constructor, methods, and nothing more that can be seen. */
public final class FaceTest {
    private static final String FACE = "feed5 end1 out1 stroke1 take2 written1 fit3 erase4 meets3 area2 fill5 unfill2 "
            + "region2 paint3 colour3 sheet1 shown2 stretch3 told1 mark2 unmark0 match2 partner1 tween5 bone4 pivot2 "
            + "key3 angle2 at3 reach4 swing4 language0 letter1 speech0 mouth2 blink2 camera4 depth2 seen5 cutOff3 "
            + "wiggle4 node0 clear0 sample4 drawn2 film3 played3 flicker2 track2 mix1 count1";

    public static void main(String[] args) {
        Checks checks = new Checks();
        checks.due("NONE", -1, CartoonHouse.NONE);
        checks.due("STATE", -3, CartoonHouse.STATE);
        checks.due("FULL", -4, CartoonHouse.FULL);
        checks.due("OPEN", -5, CartoonHouse.OPEN);
        TreeSet<String> seen = new TreeSet<>();
        TreeSet<String> hidden = new TreeSet<>();
        for (Method method : CartoonHouse.class.getDeclaredMethods()) {
            if (Modifier.isPrivate(method.getModifiers()) || method.isSynthetic()) {
                hidden.add(method.getName());
            } else {
                seen.add(method.getName() + method.getParameterCount());
            }
        }
        checks.due("methods", new TreeSet<>(Arrays.asList(FACE.split(" "))).toString(), seen.toString());
        for (String name : FACE.split(" ")) {
            boolean isTwice = hidden.contains(name.substring(0, name.length() - 1));
            checks.due("a private method named as " + name, 0, isTwice ? 1 : 0);
        }
        TreeSet<String> fields = new TreeSet<>();
        for (Field field : CartoonHouse.class.getDeclaredFields()) {
            if (!Modifier.isPrivate(field.getModifiers()) && !field.isSynthetic()) {
                fields.add(field.getName());
            }
        }
        checks.due("fields", "[FULL, NONE, OPEN, STATE]", fields.toString());
        int constructors = 0;
        for (Constructor<?> constructor : CartoonHouse.class.getDeclaredConstructors()) {
            constructors += constructor.isSynthetic() ? 0 : 1 + constructor.getParameterCount();
        }
        checks.due("constructors", 1, constructors);
        checks.end();
    }
}
