import java.lang.reflect.Constructor;
import java.lang.reflect.Field;
import java.lang.reflect.Method;
import java.lang.reflect.Modifier;
import java.util.ArrayList;
import java.util.Arrays;
import java.util.Collections;
import java.util.List;

/** The public face: the class, its constants, its constructor, its methods, and no more; and that no call throws. */
public final class FaceTest {
    private static final String[] METHODS = {"check(int)", "count(int)", "feed(long,long)", "find()",
        "frame(int,int,int)", "name(int,int,int)", "out(int)", "place()", "print(int)", "read()", "rests(int,int)",
        "statement(int,int)", "step()", "symbol(int,int)", "tell(int,int)", "thing(int,int)", "trace(int,int)"};

    public static void main(String[] args) throws ReflectiveOperationException {
        Due due = new Due();
        Class<?> face = AxiomBook.class;
        due.is("public and final", face.getModifiers(), Modifier.PUBLIC | Modifier.FINAL);
        constants(due, face);
        methods(due, face);
        Constructor<?>[] made = face.getDeclaredConstructors();
        due.is("constructors", made.length, 1);
        due.is("its parameters", made[0].getParameterCount(), 0);
        due.is("it is public", made[0].getModifiers(), Modifier.PUBLIC);
        for (Class<?> inner : face.getDeclaredClasses()) {
            due.is(inner + " is static", Modifier.isStatic(inner.getModifiers()) ? 1 : 0, 1);
            due.is(inner + " is not public", Modifier.isPublic(inner.getModifiers()) ? 1 : 0, 0);
        }
        wildArguments(due);
        due.end();
    }

    private static void constants(Due due, Class<?> face) throws ReflectiveOperationException {
        List<String> found = new ArrayList<>();
        for (Field field : face.getDeclaredFields()) {
            if (!Modifier.isPrivate(field.getModifiers())) {
                due.is(field.getName() + " is a constant", field.getModifiers(),
                    Modifier.PUBLIC | Modifier.STATIC | Modifier.FINAL);
                found.add(field.getType() + " " + field.getName() + " " + field.getInt(null));
            }
        }
        Collections.sort(found);
        due.is("constants", found.toString(), "[int BAD -1, int FULL -3, int NO -2, int OPEN 1]");
    }

    private static void methods(Due due, Class<?> face) {
        List<String> found = new ArrayList<>();
        for (Method method : face.getDeclaredMethods()) {
            if (Modifier.isPrivate(method.getModifiers())) {
                for (String open : METHODS) {
                    due.is(method.getName(), open.startsWith(method.getName() + "(") ? 1 : 0, 0);
                }
                continue;
            }
            due.is(method.getName() + " is public", method.getModifiers(), Modifier.PUBLIC);
            due.is(method.getName() + " answers", method.getReturnType().getName(), "int");
            String types = Arrays.toString(method.getParameterTypes()).replace(" ", "");
            found.add(method.getName() + "(" + types.substring(1, types.length() - 1) + ")");
        }
        Collections.sort(found);
        due.is("methods", found.toString(), Arrays.toString(METHODS));
    }

    private static void wildArguments(Due due) throws ReflectiveOperationException {
        int[] wild = {Integer.MIN_VALUE, -2, -1, 0, 1, 2, 3, 5, 200, 300, 8192, Integer.MAX_VALUE - 1,
            Integer.MAX_VALUE};
        String[] texts = {"", "$c t $. $v a $. f $f t a $. p $p t a $= f $. q $p t a $= ( p ) ABA? $. r $p t $= ( p ) $."};
        for (String text : texts) {
            due.fresh();
            due.feed(text);
            due.x.read();
            for (Method method : AxiomBook.class.getMethods()) {
                if (method.getDeclaringClass() != AxiomBook.class || method.getName().equals("feed")
                    || method.getName().equals("read")) {
                    continue;
                }
                int parameters = method.getParameterCount();
                int all = (int) Math.pow(wild.length, parameters);
                for (int n = 0; n < all; n++) {
                    Object[] given = new Object[parameters];
                    for (int i = 0, left = n; i < parameters; i++, left /= wild.length) {
                        given[i] = wild[left % wild.length];
                    }
                    int answer = (int) method.invoke(due.x, given);
                    due.is("an answer of " + method.getName(), answer >= -110 ? 1 : 0, 1);
                }
            }
        }
    }
}
