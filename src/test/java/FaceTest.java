import java.lang.reflect.Constructor;
import java.lang.reflect.Field;
import java.lang.reflect.Method;
import java.lang.reflect.Modifier;
import java.util.ArrayList;
import java.util.List;
import java.util.Set;
import java.util.TreeSet;

/** The public face is the document's, and there is no other member that can be seen from outside. */
public final class FaceTest {
    static final String[] FACE = {
        "type(int) throws IllegalArgumentException, IllegalStateException",
        "number(int) throws IllegalStateException",
        "text() throws IllegalStateException",
        "list() throws IllegalStateException",
        "map() throws IllegalStateException",
        "add(int,int) throws NoSuchElementException, IllegalArgumentException, IllegalStateException",
        "put(int,int) throws NoSuchElementException, IllegalArgumentException, IllegalStateException",
        "compile(int) throws IndexOutOfBoundsException, IllegalArgumentException",
        "errorAt()",
        "render(int,int) throws IndexOutOfBoundsException, NoSuchElementException, ArithmeticException, IllegalStateException",
        "at(int) throws IndexOutOfBoundsException",
        "kind(int) throws NoSuchElementException",
        "size(int) throws NoSuchElementException",
        "count(int)"};

    public static void main(String[] args) {
        Set<String> seen = new TreeSet<>();
        for (Method method : TemplateEngine.class.getDeclaredMethods()) {
            if (!Modifier.isPrivate(method.getModifiers())) {
                seen.add(Modifier.toString(method.getModifiers()) + " " + method.getReturnType() + " " + method.getName()
                    + parameters(method) + exceptions(method));
            }
        }
        Set<String> due = new TreeSet<>();
        for (String method : FACE) {
            due.add("public int " + method);
        }
        Bench.due("the methods", seen, due);
        for (Field field : TemplateEngine.class.getDeclaredFields()) {
            Bench.due(field.getName() + " is private", Modifier.isPrivate(field.getModifiers()), true);
        }
        for (Class<?> inside : TemplateEngine.class.getDeclaredClasses()) {
            int modifiers = inside.getModifiers();
            Bench.due(inside.getName() + " is public or protected", Modifier.isPublic(modifiers) || Modifier.isProtected(modifiers), false);
            Bench.due(inside.getName() + " is static", Modifier.isStatic(modifiers), true);
        }
        Constructor<?>[] constructors = TemplateEngine.class.getDeclaredConstructors();
        Bench.due("constructors", constructors.length, 1);
        Bench.due("the constructor's parameters", constructors[0].getParameterCount(), 0);
        Bench.due("the constructor", Modifier.toString(constructors[0].getModifiers()), "public");
        Bench.due("the class", Modifier.toString(TemplateEngine.class.getModifiers()), "public final");
        Bench.finish();
    }

    private static String parameters(Method method) {
        List<String> types = new ArrayList<>();
        for (Class<?> type : method.getParameterTypes()) {
            types.add(type.toString());
        }
        return "(" + String.join(",", types) + ")";
    }

    private static String exceptions(Method method) {
        List<String> names = new ArrayList<>();
        for (Class<?> thrown : method.getExceptionTypes()) {
            names.add(thrown.getSimpleName());
        }
        return names.isEmpty() ? "" : " throws " + String.join(", ", names);
    }
}
