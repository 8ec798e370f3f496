import java.lang.reflect.Constructor;
import java.lang.reflect.Field;
import java.lang.reflect.Method;
import java.lang.reflect.Modifier;
import java.util.ArrayList;
import java.util.List;
import java.util.Set;
import java.util.TreeSet;

/** The public face is the document's, and there is no other member that can be seen from outside. */
public final class FaceTest {
    private static final String[] FACE = {"type(int)", "number(int)", "text()", "list()", "map()", "add(int,int)", "put(int,int)",
        "compile(int)", "errorAt()", "render(int,int)", "at(int)", "kind(int)", "size(int)", "count(int)"};

    public static void main(String[] args) {
        Set<String> seen = new TreeSet<>();
        for (Method method : TemplateEngine.class.getDeclaredMethods()) {
            if (!Modifier.isPrivate(method.getModifiers())) {
                seen.add(Modifier.toString(method.getModifiers()) + " " + method.getReturnType() + " " + method.getName() + parameters(method));
            }
        }
        Set<String> due = new TreeSet<>();
        for (String method : FACE) {
            due.add("public int " + method);
        }
        Bench.due("the methods", seen, due);
        for (Field field : TemplateEngine.class.getDeclaredFields()) {
            Bench.due(field.getName() + " is private", Modifier.isPrivate(field.getModifiers()), true);
        }
        Constructor<?>[] constructors = TemplateEngine.class.getDeclaredConstructors();
        Bench.due("constructors", constructors.length, 1);
        Bench.due("the constructor's parameters", constructors[0].getParameterCount(), 0);
        Bench.due("the class", Modifier.toString(TemplateEngine.class.getModifiers()), "public final");
        Bench.finish();
    }

    private static String parameters(Method method) {
        List<String> types = new ArrayList<>();
        for (Class<?> type : method.getParameterTypes()) {
            types.add(type.toString());
        }
        return "(" + String.join(",", types) + ")";
    }
}
