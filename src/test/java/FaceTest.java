import java.lang.reflect.Constructor;
import java.lang.reflect.Field;
import java.lang.reflect.Method;
import java.lang.reflect.Modifier;
import java.util.Arrays;
import java.util.HashMap;
import java.util.Map;

/** The public face is the document's, and nothing else is open. */
public final class FaceTest {
    private static final String INT_METHODS = "lay3 set2 control2 punch1 take1 move2 repunch3 mark3 "
        + "pass1 sort1 run0 undo0 write1 wipe0 fault1 told1 setting1 field2 column2 card2 line2 "
        + "reason1 differs1 again2 agrees0 ranked2 passes0 accepts1 keep1 back1";

    public static void main(String[] args) throws Exception {
        Check check = new Check();
        Map<String, Class<?>> wanted = new HashMap<>();
        for (String name : INT_METHODS.split(" ")) {
            wanted.put(name, int.class);
        }
        wanted.put("mean0", float.class);

        int found = 0;
        for (Method method : CardTabulator.class.getDeclaredMethods()) {
            if (method.isSynthetic()) {
                continue;
            }
            if (Modifier.isPrivate(method.getModifiers())) {
                check.due("does " + method + " bear a public name", isOpen(method.getName()) ? 1 : 0, 0);
                continue;
            }
            String name = method.getName() + method.getParameterCount();
            boolean fits = wanted.get(name) == method.getReturnType()
                && Arrays.stream(method.getParameterTypes()).allMatch(type -> type == int.class)
                && Modifier.isPublic(method.getModifiers())
                && !Modifier.isStatic(method.getModifiers());
            check.due("is " + method + " of the face", fits ? 1 : 0, 1);
            found++;
        }
        check.due("number of methods", found, wanted.size());

        for (Class<?> inside : CardTabulator.class.getDeclaredClasses()) {
            for (Method method : inside.getDeclaredMethods()) {
                check.due("does " + method + " bear a public name", isOpen(method.getName()) ? 1 : 0, 0);
            }
        }

        int constants = 0;
        for (Field field : CardTabulator.class.getDeclaredFields()) {
            if (!Modifier.isPrivate(field.getModifiers())) {
                constants++;
            }
        }
        check.due("number of constants", constants, 4);
        check.due("BAD", CardTabulator.BAD, -1000001);
        check.due("STATE", CardTabulator.STATE, -1000002);
        check.due("FULL", CardTabulator.FULL, -1000003);
        check.due("NONE", CardTabulator.NONE, -1000009);

        Constructor<?>[] constructors = CardTabulator.class.getDeclaredConstructors();
        check.due("number of constructors", constructors.length, 1);
        check.due("public constructor",
            Modifier.isPublic(CardTabulator.class.getConstructor().getModifiers()) ? 1 : 0, 1);
        check.due("final class", Modifier.isFinal(CardTabulator.class.getModifiers()) ? 1 : 0, 1);
        check.end("FaceTest");
    }

    private static boolean isOpen(String name) {
        return Arrays.stream(CardTabulator.class.getMethods())
            .anyMatch(other -> other.getName().equals(name));
    }
}
