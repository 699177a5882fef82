import java.lang.reflect.Constructor;
import java.lang.reflect.Field;
import java.lang.reflect.Method;
import java.lang.reflect.Modifier;
import java.util.ArrayList;
import java.util.Arrays;
import java.util.Collections;
import java.util.List;

/** The public face, just so, and nothing of the class to be seen beside it. */
public final class FaceTest {
    private static final String[] FACE = {
        "at(int, int)", "begins(int)", "chosen(int, int)", "clear()", "count(int, int)", "distance(int)",
        "edit(int, int)", "ending(int, int)", "endings(int)", "letter(int)", "line()", "near(int, int, int)",
        "pair(int, int, boolean)", "parting(int)", "place(int, int)", "price(int, int)",
        "share(int) throws java.lang.ArithmeticException", "suggest(int)", "suggestion(int, int)", "token()",
        "word(int)",
    };

    public static void main(String[] args) {
        Check check = new Check();
        Class<?> c = SuggestSpell.class;
        check.due("public and final", c.getModifiers() & (Modifier.PUBLIC | Modifier.FINAL),
                Modifier.PUBLIC | Modifier.FINAL);

        List<String> face = new ArrayList<>();
        for (Method m : c.getDeclaredMethods()) {
            if (Modifier.isPrivate(m.getModifiers())) {
                continue;
            }
            face.add(told(m));
            check.due(m + " is public alone", m.getModifiers(), Modifier.PUBLIC);
            check.due(m + " answers int", m.getReturnType() == int.class ? 1 : 0, 1);
        }
        Collections.sort(face);
        check.due("the face is the document's: " + face, face.equals(Arrays.asList(FACE)) ? 1 : 0, 1);

        for (Method m : c.getDeclaredMethods()) {
            boolean hidden = Modifier.isPrivate(m.getModifiers());
            boolean named = face.stream().anyMatch(f -> f.startsWith(m.getName() + "("));
            check.due(m + " is private and bears a public name", hidden && named ? 1 : 0, 0);
        }
        for (Field f : c.getDeclaredFields()) {
            check.due(f + " is private", Modifier.isPrivate(f.getModifiers()) ? 1 : 0, 1);
        }
        Constructor<?>[] made = c.getDeclaredConstructors();
        check.due("constructors", made.length, 1);
        check.due("its modifiers", made[0].getModifiers(), Modifier.PUBLIC);
        check.due("its parameters", made[0].getParameterCount(), 0);
        check.end();
    }

    private static String told(Method m) {
        List<String> types = new ArrayList<>();
        for (Class<?> type : m.getParameterTypes()) {
            types.add(type.getName());
        }
        String text = m.getName() + "(" + String.join(", ", types) + ")";
        for (Class<?> thrown : m.getExceptionTypes()) {
            text += " throws " + thrown.getName();
        }
        return text;
    }
}
