import java.lang.reflect.Constructor;
import java.lang.reflect.Method;
import java.lang.reflect.Modifier;
import java.util.Arrays;
import java.util.Set;
import java.util.TreeSet;

/** Whether the class has the document's constructor and methods, and nothing else that is public. */
public final class FaceTests {
    private static final String[] METHODS = {
        "int start(boolean, int, int) throws IllegalArgumentException",
        "int step(int, int, int, int, int, int) throws IllegalArgumentException, IllegalStateException",
        "int middle(int, int, int) throws IndexOutOfBoundsException, IllegalArgumentException",
        "int rate(int, int, int) throws IndexOutOfBoundsException, IllegalArgumentException",
        "int pays(int, int, int, int) throws IndexOutOfBoundsException, IllegalArgumentException",
        "int beside(int, int, int, int, int) throws IndexOutOfBoundsException, IllegalArgumentException",
        "int unstep() throws IllegalStateException",
        "int claim(int, boolean) throws IllegalArgumentException, IllegalStateException",
        "int wall(int, int, int, int) throws IndexOutOfBoundsException, IllegalArgumentException",
        "int drop() throws IllegalStateException",
        "int book(int, int) throws IndexOutOfBoundsException, IllegalArgumentException",
        "int quote(int, int, int) throws IndexOutOfBoundsException, IllegalArgumentException",
        "int fee(int, int) throws IllegalArgumentException",
        "int sell(int) throws IndexOutOfBoundsException, IllegalStateException",
        "int day(int) throws IllegalArgumentException, IllegalStateException",
        "int stop() throws IllegalStateException",
        "int type(int) throws IllegalArgumentException, IllegalStateException",
        "int wipe()",
        "int undo() throws IllegalStateException",
        "int knock()",
        "String price(int, int, int) throws IndexOutOfBoundsException, IllegalArgumentException",
        "int nodes(int) throws IndexOutOfBoundsException",
        "String prices(int, boolean) throws IndexOutOfBoundsException",
        "String sure(int) throws IndexOutOfBoundsException",
        "String weight(int, int) throws IndexOutOfBoundsException, IllegalArgumentException",
        "int unfair()",
        "String ofStep(int, int) throws IndexOutOfBoundsException, IllegalArgumentException",
        "String due(int, int, int) throws IndexOutOfBoundsException",
        "String worth(int, int, int, boolean) throws IndexOutOfBoundsException, IllegalStateException",
        "String holding(int, int, int, boolean, int)"
                + " throws IndexOutOfBoundsException, IllegalArgumentException, IllegalStateException",
        "boolean stops(int, int, int) throws IndexOutOfBoundsException, IllegalStateException",
        "String best(int) throws IndexOutOfBoundsException, IllegalStateException",
        "String span(int) throws IndexOutOfBoundsException, IllegalStateException",
        "int implied(int, int, int) throws IndexOutOfBoundsException, IllegalArgumentException",
        "String law(int, int) throws IndexOutOfBoundsException",
        "String worthOf(int, int, boolean) throws IllegalArgumentException, IllegalStateException",
        "String least(int) throws IndexOutOfBoundsException",
        "String trade()",
        "String played(int) throws IllegalArgumentException",
        "int ofClaim(int, int) throws IndexOutOfBoundsException, IllegalArgumentException",
        "String told(int) throws IndexOutOfBoundsException",
        "int fault()",
        "int house(int) throws IllegalArgumentException",
        "boolean isSound()",
        "long digest()"
    };

    private static int wrong = 0;

    private static void tell(String text) {
        wrong++;
        System.out.println(text);
    }

    private static String names(Class<?>[] types) {
        StringBuilder all = new StringBuilder();
        for (Class<?> type : types) {
            all.append(all.length() == 0 ? "" : ", ").append(type.getSimpleName());
        }
        return all.toString();
    }

    private static String face(Method method) {
        String thrown = names(method.getExceptionTypes());
        return method.getReturnType().getSimpleName() + " " + method.getName() + "("
                + names(method.getParameterTypes()) + ")" + (thrown.isEmpty() ? "" : " throws " + thrown);
    }

    private static void lookAtMethods() {
        Set<String> missing = new TreeSet<>(Arrays.asList(METHODS));
        for (Method method : Treeward.class.getDeclaredMethods()) {
            if (Modifier.isPublic(method.getModifiers())) {
                if (!missing.remove(face(method))) {
                    tell("not in the document: " + face(method));
                }
                if (Modifier.isStatic(method.getModifiers())) {
                    tell("static: " + face(method));
                }
            }
        }
        for (String one : missing) {
            tell("not in the class: " + one);
        }
    }

    private static void lookAtClass() {
        int modifiers = Treeward.class.getModifiers();
        if (!Modifier.isPublic(modifiers) || !Modifier.isFinal(modifiers)) {
            tell("the class is not public and final");
        }
        if (Treeward.class.getSuperclass() != Object.class || Treeward.class.getInterfaces().length > 0) {
            tell("the class has a class or an interface above it");
        }
        Constructor<?>[] made = Treeward.class.getDeclaredConstructors();
        if (made.length != 1 || !Modifier.isPublic(made[0].getModifiers())
                || made[0].getParameterCount() != 0 || made[0].getExceptionTypes().length != 0) {
            tell("the constructor is not that of the document");
        }
        if (Treeward.class.getFields().length > 0) {
            tell("a field is public");
        }
    }

    public static void main(String[] args) {
        lookAtMethods();
        lookAtClass();
        System.out.println(wrong == 0 ? METHODS.length + " methods are as in the document" : wrong + " are wrong");
        if (wrong != 0) {
            System.exit(1);
        }
    }
}
