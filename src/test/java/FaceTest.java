import java.lang.reflect.Constructor;
import java.lang.reflect.Field;
import java.lang.reflect.Method;
import java.lang.reflect.Modifier;
import java.util.ArrayList;
import java.util.Arrays;
import java.util.HashSet;
import java.util.List;
import java.util.Set;

/** The document's face, and nothing beside it that others could see (LANGUAGE.md, rule 1 and rule 5). */
public final class FaceTest {
    private static final List<String> FACE = List.of(
            "public int MessageCodes.key()",
            "public void MessageCodes.keyByte(int,byte)",
            "public void MessageCodes.octet(byte)",
            "public int MessageCodes.code(int,int)",
            "public byte MessageCodes.out(int) throws java.lang.ArrayIndexOutOfBoundsException",
            "public int MessageCodes.fresh(int,long)",
            "public int MessageCodes.verify(int,int,int)",
            "public int MessageCodes.install(int,int,long)",
            "public int MessageCodes.check(int)",
            "public int MessageCodes.trip(long)",
            "public int MessageCodes.encipher(int)",
            "public int MessageCodes.may(int,int,boolean)");

    public static void main(String[] args) {
        Checks.due("the class is public and final", MessageCodes.class.getModifiers(), Modifier.PUBLIC | Modifier.FINAL);
        Constructor<?>[] constructors = MessageCodes.class.getDeclaredConstructors();
        Checks.due("constructors", constructors.length, 1);
        Checks.due("the constructor's parameters", constructors[0].getParameterCount(), 0);
        Checks.due("the constructor is public", constructors[0].getModifiers(), Modifier.PUBLIC);
        methodsAreTheFace();
        fieldsAreHidden();
        for (Class<?> inner : MessageCodes.class.getDeclaredClasses()) {
            Checks.due(inner + " is static", inner.getModifiers() & Modifier.STATIC, Modifier.STATIC);
            Checks.due(inner + " is seen", inner.getModifiers() & (Modifier.PUBLIC | Modifier.PROTECTED), 0);
        }
        Checks.end();
    }

    private static void methodsAreTheFace() {
        List<String> seen = new ArrayList<>();
        Set<String> publicNames = new HashSet<>();
        for (Method method : MessageCodes.class.getDeclaredMethods()) {
            if (!Modifier.isPrivate(method.getModifiers())) {
                seen.add(method.toString());
                publicNames.add(method.getName());
            }
        }
        for (String method : FACE) {
            Checks.due(method + " stands", seen.contains(method) ? 1 : 0, 1);
        }
        Checks.due("methods that others see, " + seen, seen.size(), FACE.size());
        for (Method method : MessageCodes.class.getDeclaredMethods()) {
            boolean hidden = Modifier.isPrivate(method.getModifiers());
            Checks.due(method + " bears a public name", hidden && publicNames.contains(method.getName()) ? 1 : 0, 0);
        }
    }

    private static void fieldsAreHidden() {
        for (Field field : MessageCodes.class.getDeclaredFields()) {
            int modifiers = field.getModifiers();
            Checks.due(field + " is private", modifiers & Modifier.PRIVATE, Modifier.PRIVATE);
            boolean changing = Modifier.isStatic(modifiers) && !Modifier.isFinal(modifiers);
            Checks.due(field + " is static and may change", changing ? 1 : 0, 0);
        }
        Checks.due("public fields " + Arrays.toString(MessageCodes.class.getFields()),
                MessageCodes.class.getFields().length, 0);
    }
}
