import java.lang.reflect.Field;
import java.lang.reflect.Method;
import java.lang.reflect.Modifier;
import java.util.Set;
import java.util.TreeSet;

/** The public face of the document, and no other member that can be seen. */
public final class FaceTest {
    private static final Set<String> METHODS = Set.of(
        "int part(long)", "int path()", "long key(int)", "long word(long,int,long)",
        "long span(long,int,int,long)", "int fraction(long,int,int,long,long)", "int weight(int,long)",
        "int pick(long,int,int)", "int permuted(long,int,int,int,int)", "int tries()", "int status()",
        "int open(long,int)", "long next(int,long)", "int nextPick(int)", "int split(int)",
        "int skip(int,int)", "int keep(int,int)", "int back(int)", "int told(int,int)",
        "int counted(int,int,int)", "int count(int)");

    public static void main(String[] args) throws Exception {
        constants();
        methods();
        others();
        Due.end();
    }

    private static void constants() throws Exception {
        String[] names = {"BAD", "FULL", "NONE", "ZERO", "GREAT"};
        for (int i = 0; i < names.length; i++) {
            Field field = NamedStreams.class.getField(names[i]);
            Due.is(names[i], field.getInt(null), -1 - i);
            Due.is(names[i] + " is public static final", field.getModifiers(),
                Modifier.PUBLIC | Modifier.STATIC | Modifier.FINAL);
        }
        Due.is("public fields", NamedStreams.class.getFields().length, names.length);
    }

    private static void methods() {
        Set<String> found = new TreeSet<>();
        Set<String> publicNames = new TreeSet<>();
        Set<String> otherNames = new TreeSet<>();
        for (Method method : NamedStreams.class.getDeclaredMethods()) {
            if (method.isSynthetic()) {
                continue;
            }
            if (Modifier.isPublic(method.getModifiers())) {
                found.add(signature(method));
                publicNames.add(method.getName());
            } else {
                Due.holds(method + " is private", Modifier.isPrivate(method.getModifiers()));
                otherNames.add(method.getName());
            }
        }
        Due.holds("the public methods are the document's: " + found, found.equals(METHODS));
        otherNames.retainAll(publicNames);
        Due.holds("private methods with a public name: " + otherNames, otherNames.isEmpty());
    }

    private static String signature(Method method) {
        StringBuilder text = new StringBuilder(method.getReturnType() + " " + method.getName() + "(");
        for (Class<?> type : method.getParameterTypes()) {
            text.append(text.charAt(text.length() - 1) == '(' ? "" : ",").append(type);
        }
        return text.append(")").toString();
    }

    private static void others() throws Exception {
        Class<?> face = NamedStreams.class;
        Due.is("the class is public and final", face.getModifiers(), Modifier.PUBLIC | Modifier.FINAL);
        Due.is("constructors", face.getDeclaredConstructors().length, 1);
        Due.holds("the constructor is public", Modifier.isPublic(face.getConstructor(long.class).getModifiers()));
        for (Field field : face.getDeclaredFields()) {
            int modifiers = field.getModifiers();
            Due.holds(field + " is private or public", Modifier.isPrivate(modifiers) || Modifier.isPublic(modifiers));
            Due.holds(field + " is no static state", !Modifier.isStatic(modifiers) || Modifier.isFinal(modifiers));
        }
        for (Class<?> inside : face.getDeclaredClasses()) {
            Due.holds(inside + " is static", Modifier.isStatic(inside.getModifiers()));
            Due.holds(inside + " is not public", !Modifier.isPublic(inside.getModifiers()));
        }
    }
}
