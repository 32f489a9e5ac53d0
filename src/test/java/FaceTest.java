import java.lang.reflect.Constructor;
import java.lang.reflect.Field;
import java.lang.reflect.Method;
import java.lang.reflect.Modifier;
import java.util.Arrays;
import java.util.TreeSet;

/** The class has the document's face and no other member that isn't private. */
public final class FaceTest {
    private static final String[] FACE = {
        "void side(int) IllegalArgumentException",
        "void memory(int,int) IndexOutOfBoundsException",
        "int look(int,int) IllegalArgumentException IndexOutOfBoundsException",
        "void word(int,long) IndexOutOfBoundsException UnsupportedOperationException",
        "void cut(int) IllegalArgumentException",
        "long wordOf(int) IndexOutOfBoundsException",
        "int length()",
        "int field(long,int) IllegalArgumentException",
        "boolean illegal(long)",
        "int put(int) IllegalArgumentException UnsupportedOperationException",
        "void end(int) IllegalArgumentException",
        "int assemble()",
        "int listing(int,int) IndexOutOfBoundsException",
        "int run()",
        "int stopped(int) IllegalArgumentException",
        "int instruction(int,int) IllegalStateException IndexOutOfBoundsException IllegalArgumentException",
        "void input(int,int,int) IllegalArgumentException",
        "int convolution(int,int,int,int,int,int) IndexOutOfBoundsException IllegalArgumentException"
            + " UnsupportedOperationException",
        "int pool(int,int,int) IndexOutOfBoundsException IllegalArgumentException UnsupportedOperationException",
        "int addition(int,int,int) IndexOutOfBoundsException IllegalArgumentException"
            + " UnsupportedOperationException",
        "int form(int,int) IndexOutOfBoundsException IllegalArgumentException",
        "int compile() UnsupportedOperationException",
        "void reckon()",
        "int network()",
        "int networkSign(int,int) IndexOutOfBoundsException",
        "int place() UnsupportedOperationException",
        "int under(int,int) IllegalStateException IllegalArgumentException",
        "int waits(int,int) IllegalStateException IllegalArgumentException",
    };

    public static void main(String[] args) throws Exception {
        TreeSet<String> open = new TreeSet<>();
        TreeSet<String> names = new TreeSet<>();
        for (Method method : TensorForge.class.getDeclaredMethods()) {
            if (!Modifier.isPrivate(method.getModifiers())) {
                Check.holds(method + " is public", Modifier.isPublic(method.getModifiers()));
                open.add(told(method));
                names.add(method.getName());
            }
        }
        Check.due("the face", String.join("\n", open), String.join("\n", new TreeSet<>(Arrays.asList(FACE))));
        for (Constructor<?> made : TensorForge.class.getDeclaredConstructors()) {
            Check.due("parameters of the constructor", made.getParameterCount(), 0);
            Check.holds("the constructor is public", Modifier.isPublic(made.getModifiers()));
        }
        for (Field field : TensorForge.class.getDeclaredFields()) {
            boolean constant = field.getName().equals("NONE");
            Check.holds(field + " is private or NONE", constant || Modifier.isPrivate(field.getModifiers()));
        }
        Field none = TensorForge.class.getField("NONE");
        Check.due("NONE", none.getInt(null), -1);
        Check.holds("the class is final", Modifier.isFinal(TensorForge.class.getModifiers()));
        for (Class<?> inner : TensorForge.class.getDeclaredClasses()) {
            int how = inner.getModifiers();
            Check.holds(inner + " is static, and private or package-visible",
                    Modifier.isStatic(how) && !Modifier.isPublic(how) && !Modifier.isProtected(how));
            for (Method method : inner.getDeclaredMethods()) {
                Check.holds(method + " has no name of the face", !names.contains(method.getName()));
                Check.holds(method + " has at most seven parameters", method.getParameterCount() <= 7);
            }
        }
        Check.finish();
    }

    private static String told(Method method) {
        StringBuilder told = new StringBuilder(method.getReturnType().getSimpleName());
        told.append(' ').append(method.getName()).append('(');
        for (int k = 0; k < method.getParameterCount(); k++) {
            told.append(k == 0 ? "" : ",").append(method.getParameterTypes()[k].getSimpleName());
        }
        told.append(')');
        for (Class<?> thrown : method.getExceptionTypes()) {
            told.append(' ').append(thrown.getSimpleName());
        }
        return told.toString();
    }
}
