import java.lang.reflect.Constructor;
import java.lang.reflect.Field;
import java.lang.reflect.Method;
import java.lang.reflect.Modifier;
import java.util.ArrayList;
import java.util.List;
import java.util.TreeSet;

/** The class has the face of the document, and shows nothing else. */
public final class FaceTest {
    private static final String[] FACE = {
        "int concept(int) IllegalArgumentException IllegalStateException",
        "int term(int,int,int) IndexOutOfBoundsException IllegalArgumentException IllegalStateException",
        "int vote(int,int,boolean) IndexOutOfBoundsException IllegalStateException",
        "int prefer(int) IndexOutOfBoundsException IllegalStateException",
        "int ban(int,int) IndexOutOfBoundsException IllegalArgumentException IllegalStateException",
        "int allow(int) IndexOutOfBoundsException IllegalStateException",
        "int ofTerm(int,int) IndexOutOfBoundsException IllegalArgumentException",
        "int ofConcept(int,int) IndexOutOfBoundsException IllegalArgumentException",
        "int split(int,int,int) IndexOutOfBoundsException IllegalArgumentException IllegalStateException",
        "int join(int,int) IndexOutOfBoundsException IllegalArgumentException IllegalStateException",
        "int document() IllegalStateException",
        "int write(int,int,int,int) IndexOutOfBoundsException IllegalArgumentException IllegalStateException",
        "int cut(int,int) IndexOutOfBoundsException IllegalStateException",
        "int approve(int,int) IndexOutOfBoundsException IllegalStateException",
        "int use(int,int,int) IndexOutOfBoundsException",
        "int ofText(int,int,int) IndexOutOfBoundsException IllegalArgumentException",
        "int agreement(int) IndexOutOfBoundsException",
        "int pass(int) IllegalArgumentException IllegalStateException",
        "int many(int) IllegalArgumentException",
        "double meanConsistency()",
        "int reopenedBy(int) IndexOutOfBoundsException",
        "int reopenedIn(int) IllegalArgumentException",
        "int changedBy(int,int) IndexOutOfBoundsException IllegalArgumentException",
        "int formFor(int,int,int,int) IndexOutOfBoundsException",
        "long digest()",
    };

    public static void main(String[] args) {
        TreeSet<String> due = new TreeSet<>(List.of(FACE));
        TreeSet<String> seen = new TreeSet<>();
        List<String> hidden = new ArrayList<>();
        for (Method method : GlossaryCrown.class.getDeclaredMethods()) {
            if (Modifier.isPrivate(method.getModifiers())) {
                hidden.add(method.getName());
            } else {
                seen.add(signature(method));
                Due.is(method.getName() + " is public and of the object", method.getModifiers(), Modifier.PUBLIC);
            }
        }
        Due.is("the face " + seen, seen.equals(due) ? 1 : 0, 1);
        for (String line : FACE) {
            String name = line.substring(line.indexOf(' ') + 1, line.indexOf('('));
            Due.is("private methods with the name " + name, hidden.contains(name) ? 1 : 0, 0);
        }
        for (Field field : GlossaryCrown.class.getDeclaredFields()) {
            Due.is(field.getName() + " is private", Modifier.isPrivate(field.getModifiers()) ? 1 : 0, 1);
        }
        Constructor<?>[] constructors = GlossaryCrown.class.getDeclaredConstructors();
        Due.is("constructors", constructors.length, 1);
        Due.is("its parameters", constructors[0].getParameterCount(), 0);
        Due.is("it is public", constructors[0].getModifiers(), Modifier.PUBLIC);
        Due.is("the class", GlossaryCrown.class.getModifiers(), Modifier.PUBLIC | Modifier.FINAL);
        Due.close("FaceTest");
    }

    private static String signature(Method method) {
        StringBuilder text = new StringBuilder();
        text.append(method.getReturnType().getName()).append(' ').append(method.getName()).append('(');
        for (Class<?> parameter : method.getParameterTypes()) {
            text.append(text.charAt(text.length() - 1) == '(' ? "" : ",").append(parameter.getName());
        }
        text.append(')');
        for (Class<?> exception : method.getExceptionTypes()) {
            text.append(' ').append(exception.getSimpleName());
        }
        return text.toString();
    }
}
