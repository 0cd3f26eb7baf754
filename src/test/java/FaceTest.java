import java.io.IOException;
import java.lang.reflect.Constructor;
import java.lang.reflect.Field;
import java.lang.reflect.Method;
import java.lang.reflect.Modifier;
import java.nio.file.Files;
import java.nio.file.Path;
import java.util.Arrays;
import java.util.NoSuchElementException;
import java.util.Set;
import java.util.TreeSet;
import java.util.stream.Collectors;

/** The public face is the document's and no more; the file keeps to the rules of LANGUAGE.md that can be looked at here. */
public final class FaceTest {
    private static final Set<String> FACE = Set.of(
        "int feed(int,int,int,int,int)", "boolean end(int)", "int law()", "int fault()", "int who(int,int) throws",
        "int mint(int,int) throws", "int coin(int,int,int)", "int of(int,int) throws", "int face(int,int,int)",
        "int value(int,int,int)", "int luck()", "int bears(int,int)", "int sale(int,int,int,int)", "int sales()",
        "int sold(int,int) throws", "int payment(int,int,int,int)", "int paid(int)", "int buy(int,int,int,int)",
        "boolean steal(int,int)", "int forge(int,int)", "int day()", "boolean rob(int,int)", "int dies(int,int)",
        "boolean close(int)", "int strokes()", "int stroke(int,int) throws", "int foreign(int)", "int silver(int)",
        "int rows(int,int,int)", "int could(int,int)", "int market(int,int)", "int undo()", "int sentence()",
        "int said(int)", "boolean image(int)", "boolean restore(int)", "int count(int)");

    public static void main(String[] args) throws IOException {
        face();
        inside();
        source();
        Desk.close();
    }

    private static String told(Method m) {
        String types = Arrays.stream(m.getParameterTypes()).map(Class::getName).collect(Collectors.joining(","));
        boolean throwing = m.getExceptionTypes().length == 1 && m.getExceptionTypes()[0] == NoSuchElementException.class;
        return m.getReturnType().getName() + " " + m.getName() + "(" + types + ")" + (throwing ? " throws" : "");
    }

    private static void face() {
        Class<?> face = FaceCoins.class;
        Desk.yes("public and final", Modifier.isPublic(face.getModifiers()) && Modifier.isFinal(face.getModifiers()));
        Set<String> found = new TreeSet<>();
        Set<String> names = new TreeSet<>();
        for (Method m : face.getDeclaredMethods()) {
            if (Modifier.isPrivate(m.getModifiers()) || m.isSynthetic()) continue;
            found.add(told(m));
            names.add(m.getName());
        }
        Desk.yes("the face is " + found, found.equals(new TreeSet<>(FACE)));
        for (Method m : face.getDeclaredMethods()) {
            if (Modifier.isPrivate(m.getModifiers())) Desk.no("a private " + m.getName(), names.contains(m.getName()));
        }
        for (Constructor<?> c : face.getDeclaredConstructors()) {
            Desk.yes("constructor", Modifier.isPublic(c.getModifiers()) && c.getParameterCount() == 0);
        }
        for (Field f : face.getDeclaredFields()) {
            boolean isNone = f.getName().equals("NONE");
            Desk.due(f.getName() + " is public", Modifier.isPublic(f.getModifiers()) ? 1 : 0, isNone ? 1 : 0);
            Desk.yes(f.getName() + " is public or private", isNone || Modifier.isPrivate(f.getModifiers()));
        }
        Desk.due("NONE", FaceCoins.NONE, -1);
    }

    private static void inside() {
        Class<?>[] inside = FaceCoins.class.getDeclaredClasses();
        Desk.yes("at most some twelve classes", inside.length < 12);
        Set<String> names = FACE.stream().map(t -> t.substring(t.indexOf(' ') + 1, t.indexOf('('))).collect(Collectors.toSet());
        for (Class<?> c : inside) {
            Desk.yes(c + " is private and static", Modifier.isPrivate(c.getModifiers()) && Modifier.isStatic(c.getModifiers()));
            int fields = 0;
            for (Field f : c.getDeclaredFields()) {
                if (Modifier.isStatic(f.getModifiers())) Desk.yes(f + " is final", Modifier.isFinal(f.getModifiers()));
                else fields++;
            }
            Desk.yes(c + " has at most twenty fields", fields <= 20);
            for (Method m : c.getDeclaredMethods()) {
                Desk.yes(m + " has at most seven parameters", m.getParameterCount() <= 7);
                Desk.no(m + " has a name of the face", names.contains(m.getName()));
            }
        }
    }

    private static void source() throws IOException {
        String text = Files.readString(Path.of("src/main/java/FaceCoins.java"));
        String[] never = {"->", "::", "Exact", "synchronized", "assert ", "finally", "catch", "package ", "var ", "System.out",
            "lambda", ".equals(", "hashCode", "Random", "nanoTime", "currentTimeMillis", "\" +", "+ \""};
        for (String word : never) Desk.no("'" + word + "' stands in the file", text.contains(word));
        for (String line : text.split("\n")) {
            if (line.startsWith("import ")) Desk.yes(line, line.equals("import java.util.NoSuchElementException;"));
        }
        for (char c : text.toCharArray()) {
            if (c != '\n' && (c < 32 || c > 126)) Desk.due("a sign of the file", c, ' ');
        }
    }
}
