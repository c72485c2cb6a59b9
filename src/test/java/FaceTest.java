import java.lang.reflect.Constructor;
import java.lang.reflect.Field;
import java.lang.reflect.Method;
import java.lang.reflect.Modifier;
import java.util.Arrays;
import java.util.HashSet;
import java.util.Set;

/** The public face is the document's: each method with its types, and no other member that is not private. */
public final class FaceTest {
    private static final String[] FACE = {
        "int join(int,int) IllegalArgumentException IllegalStateException",
        "int buyLamp(int,int) IndexOutOfBoundsException IllegalArgumentException IllegalStateException",
        "int dropLamp(int) IndexOutOfBoundsException IllegalStateException",
        "int borrow(int,int) IndexOutOfBoundsException IllegalArgumentException IllegalStateException",
        "int giveBack(int) IndexOutOfBoundsException IllegalStateException",
        "int certify(int) IndexOutOfBoundsException IllegalStateException",
        "int pass(int) IllegalArgumentException",
        "int members()",
        "int hour()",
        "int hourOfDay()",
        "int seized()",
        "int revoked()",
        "int certificates()",
        "int honestOnes()",
        "int lampOf(int) IndexOutOfBoundsException",
        "int purseOf(int) IndexOutOfBoundsException",
        "int wears(int) IndexOutOfBoundsException",
        "int hatOn(int) IndexOutOfBoundsException",
        "boolean hasLent(int) IndexOutOfBoundsException",
        "boolean isExpelled(int) IndexOutOfBoundsException",
        "int shadowOf(int) IndexOutOfBoundsException",
        "int honestShadow(int,int) IndexOutOfBoundsException",
        "int certified(int) IndexOutOfBoundsException",
        "boolean isHonest(int) IndexOutOfBoundsException IllegalStateException",
        "int longest()",
        "int hoursUntilAudit()",
        "int auditBrings(int) IndexOutOfBoundsException",
        "int richestThen()",
        "int bestHat(int) IndexOutOfBoundsException",
        "int longestIn(int) IndexOutOfBoundsException",
        "double meanShadow()",
        "long digest()"
    };

    public static void main(String[] args) {
        methodsOfTheDocumentAlone();
        allElseIsHidden();
        theClassAndItsConstructor();
        Due.end();
    }

    private static void methodsOfTheDocumentAlone() {
        Set<String> due = new HashSet<>(Arrays.asList(FACE));
        Set<String> publicNames = new HashSet<>();
        for (Method method : ShadowSociety.class.getDeclaredMethods()) {
            if (!Modifier.isPrivate(method.getModifiers())) {
                Due.answer("the document has " + signature(method), due.remove(signature(method)), true);
                publicNames.add(method.getName());
            }
        }
        Due.answer("what is missing", due.toString(), "[]");
        for (Method method : ShadowSociety.class.getDeclaredMethods()) {
            boolean hidden = Modifier.isPrivate(method.getModifiers());
            boolean clash = hidden && publicNames.contains(method.getName());
            Due.answer("private with a public name: " + method, clash, false);
        }
    }

    private static void allElseIsHidden() {
        for (Field field : ShadowSociety.class.getDeclaredFields()) {
            Due.answer("private: " + field, Modifier.isPrivate(field.getModifiers()), true);
        }
        for (Class<?> inside : ShadowSociety.class.getDeclaredClasses()) {
            int shown = inside.getModifiers() & (Modifier.PUBLIC | Modifier.PROTECTED);
            Due.answer("public or protected: " + inside, shown != 0, false);
            Due.answer("static: " + inside, Modifier.isStatic(inside.getModifiers()), true);
        }
    }

    private static void theClassAndItsConstructor() {
        Constructor<?>[] constructors = ShadowSociety.class.getDeclaredConstructors();
        Due.answer("constructors", constructors.length, 1);
        Due.answer("its parameters", constructors[0].getParameterCount(), 0);
        Due.answer("it is public", Modifier.isPublic(constructors[0].getModifiers()), true);
        Due.answer("the class is final", Modifier.isFinal(ShadowSociety.class.getModifiers()), true);
        Due.answer("the class is public", Modifier.isPublic(ShadowSociety.class.getModifiers()), true);
    }

    private static String signature(Method method) {
        StringBuilder text = new StringBuilder();
        text.append(method.getReturnType().getName()).append(' ').append(method.getName()).append('(');
        for (int i = 0; i < method.getParameterCount(); i++) {
            text.append(i == 0 ? "" : ",").append(method.getParameterTypes()[i].getName());
        }
        text.append(')');
        for (Class<?> exception : method.getExceptionTypes()) {
            text.append(' ').append(exception.getSimpleName());
        }
        return text.toString();
    }
}
