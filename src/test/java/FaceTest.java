import java.lang.reflect.Constructor;
import java.lang.reflect.Field;
import java.lang.reflect.Member;
import java.lang.reflect.Method;
import java.lang.reflect.Modifier;
import java.util.Arrays;
import java.util.Set;
import java.util.TreeSet;

/** The public face, the constants and promise 1 (a new object). */
public final class FaceTest {
    private static final Set<String> FACE = new TreeSet<>(Arrays.asList(
            "int type(int)", "int clearText()", "int syntaxError()", "int carryOut()", "int add()", "int drop(int)",
            "int titles()", "int character(int,int)", "int of(int,int)", "int common(int,int)", "int closest(int)",
            "int unknown()", "int hardest()", "int ifAdded()", "int setMode(int)", "int setOrder(int)", "int mode()",
            "int order()", "int ask(int)", "int erase()", "int queryLength()", "int queryCharacter(int)",
            "int results()", "int result(int)", "int matchPlace(int)", "int pick(int)", "int undo()",
            "long digest()"));
    private static final Set<String> CONSTANTS = new TreeSet<>(Arrays.asList(
            "NO_SUCH", "BAD_VALUE", "NOT_POSSIBLE", "LIMIT", "BAD_TEXT", "NONE"));

    private FaceTest() {
    }

    public static void main(String[] args) {
        testMembers();
        testConstants();
        testNewObject();
        testObjectsAreApart();
        Checks.end();
    }

    private static boolean isPrivate(Member member) {
        return Modifier.isPrivate(member.getModifiers());
    }

    private static void testMembers() {
        int shape = TitleFinder.class.getModifiers();
        Checks.due("public and final", Modifier.isPublic(shape) && Modifier.isFinal(shape) ? 1 : 0, 1);
        Set<String> methods = new TreeSet<>();
        Set<String> names = new TreeSet<>();
        for (Method method : TitleFinder.class.getDeclaredMethods()) {
            if (!isPrivate(method)) {
                methods.add(described(method));
                names.add(method.getName());
            }
        }
        Checks.dueText("the methods", methods.toString(), FACE.toString());
        for (Method method : TitleFinder.class.getDeclaredMethods()) {
            boolean shared = isPrivate(method) && names.contains(method.getName());
            Checks.due("a private method with a public name, " + method.getName(), shared ? 1 : 0, 0);
        }
        Set<String> fields = new TreeSet<>();
        for (Field field : TitleFinder.class.getDeclaredFields()) {
            if (!isPrivate(field)) {
                fields.add(field.getName());
            }
        }
        Checks.dueText("the constants", fields.toString(), CONSTANTS.toString());
        Constructor<?>[] made = TitleFinder.class.getDeclaredConstructors();
        Checks.due("constructors", made.length, 1);
        Checks.due("parameters of the constructor", made[0].getParameterCount(), 0);
        Checks.due("public constructor", Modifier.isPublic(made[0].getModifiers()) ? 1 : 0, 1);
    }

    private static String described(Method method) {
        String answer = method.getReturnType().getName() + " " + method.getName() + "(";
        for (int i = 0; i < method.getParameterCount(); i++) {
            answer += (i > 0 ? "," : "") + method.getParameterTypes()[i].getName();
        }
        return answer + ")";
    }

    private static void testConstants() {
        Checks.due("NO_SUCH", TitleFinder.NO_SUCH, -1);
        Checks.due("BAD_VALUE", TitleFinder.BAD_VALUE, -2);
        Checks.due("NOT_POSSIBLE", TitleFinder.NOT_POSSIBLE, -3);
        Checks.due("LIMIT", TitleFinder.LIMIT, -4);
        Checks.due("BAD_TEXT", TitleFinder.BAD_TEXT, -5);
        Checks.due("NONE", TitleFinder.NONE, -6);
    }

    private static void testNewObject() {
        TitleFinder finder = new TitleFinder();
        Checks.due("new: titles()", finder.titles(), 0);
        Checks.due("new: queryLength()", finder.queryLength(), 0);
        Checks.due("new: queryCharacter(0)", finder.queryCharacter(0), TitleFinder.NO_SUCH);
        Checks.due("new: mode()", finder.mode(), 0);
        Checks.due("new: order()", finder.order(), 0);
        Checks.due("new: results()", finder.results(), 0);
        Checks.due("new: unknown()", finder.unknown(), 0);
        Checks.due("new: hardest()", finder.hardest(), TitleFinder.NONE);
        Checks.due("new: undo()", finder.undo(), TitleFinder.NOT_POSSIBLE);
        Checks.due("new: erase()", finder.erase(), TitleFinder.NOT_POSSIBLE);
        Checks.due("new: clearText()", finder.clearText(), 0);
        Checks.due("new: type(97)", finder.type(97), 1);
    }

    private static void testObjectsAreApart() {
        TitleFinder one = Checks.withTitles("red", "blue");
        TitleFinder other = new TitleFinder();
        Checks.ask(one, "e");
        Checks.due("titles() of the other object", other.titles(), 0);
        Checks.due("queryLength() of the other object", other.queryLength(), 0);
        Checks.due("undo() of the other object", other.undo(), TitleFinder.NOT_POSSIBLE);
    }
}
