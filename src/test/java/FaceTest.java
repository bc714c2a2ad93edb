import java.io.IOException;
import java.lang.reflect.Constructor;
import java.lang.reflect.Field;
import java.lang.reflect.Method;
import java.lang.reflect.Modifier;
import java.nio.charset.StandardCharsets;
import java.nio.file.Files;
import java.nio.file.Paths;
import java.util.Arrays;
import java.util.HashSet;
import java.util.List;
import java.util.Set;
import java.util.TreeSet;

/** The class has the face of the document and no more, and keeps to the rules of LANGUAGE.md that can be seen from outside. */
public final class FaceTest {
    private static final String[] FACE = {
        "int type(char) IllegalStateException", "int wipe()", "int fault() NoSuchElementException",
        "char faultKind() NoSuchElementException", "int define() IllegalArgumentException IllegalStateException",
        "int invert(int) IndexOutOfBoundsException IllegalStateException", "int length(int) IndexOutOfBoundsException",
        "char signAt(int int) IndexOutOfBoundsException", "int size(int) IndexOutOfBoundsException",
        "char instruction(int int) IndexOutOfBoundsException", "int set(char int) IllegalArgumentException",
        "int get(char) IllegalArgumentException", "int stacked()", "int stackAt(int) IndexOutOfBoundsException",
        "int start(int boolean) IndexOutOfBoundsException", "int go(int boolean) IllegalArgumentException IllegalStateException",
        "char state()", "int place() IllegalStateException", "int inside() IllegalStateException", "int depth() IllegalStateException",
        "boolean isAhead() IllegalStateException", "char why(int) NoSuchElementException", "int whyNumber(int) NoSuchElementException",
        "int run(int boolean) IndexOutOfBoundsException UnsupportedOperationException", "long erase(char) IllegalArgumentException",
        "long steps()", "int image(int char int) IndexOutOfBoundsException IllegalArgumentException NoSuchElementException",
        "int works(int char) IndexOutOfBoundsException IllegalArgumentException",
        "int alike(int char) IndexOutOfBoundsException IllegalArgumentException",
        "int gate(int int) IllegalArgumentException IllegalStateException", "int dropGate() NoSuchElementException", "int gates()",
        "int through(int) IllegalArgumentException", "int backThrough(int) IllegalArgumentException", "int turnRound()", "int simplify()",
        "int made()", "int madeAt(int) IndexOutOfBoundsException", "int leastGates()", "int cycles()", "int order()",
        "int setImage(int int) IllegalArgumentException", "int garbage()", "float forgotten()",
        "int pebbles(int int) IllegalArgumentException NoSuchElementException", "int fewestPebbles(int) IllegalArgumentException",
        "int procedures()", "long checksum()", "double meanSize() NoSuchElementException", "boolean isSound()"};

    public static void main(String[] args) throws IOException {
        face();
        insides();
        source();
        Script.end("FaceTest");
    }

    private static String written(Method method) {
        StringBuilder text = new StringBuilder(method.getReturnType().getSimpleName());
        text.append(' ').append(method.getName()).append('(');
        for (Class<?> type : method.getParameterTypes()) {
            text.append(text.charAt(text.length() - 1) == '(' ? "" : " ").append(type.getSimpleName());
        }
        text.append(')');
        for (Class<?> type : method.getExceptionTypes()) {
            text.append(' ').append(type.getSimpleName());
        }
        return text.toString();
    }

    private static void face() {
        Set<String> found = new TreeSet<>();
        Set<String> names = new HashSet<>();
        for (Method method : Uncomputery.class.getDeclaredMethods()) {
            if (!Modifier.isPrivate(method.getModifiers())) {
                found.add(written(method));
                names.add(method.getName());
                Script.same(method + " is public", Modifier.toString(method.getModifiers()), "public");
            }
        }
        Script.same("the face", found, new TreeSet<>(Arrays.asList(FACE)));
        Script.same("the class", Modifier.toString(Uncomputery.class.getModifiers()), "public final");
        Constructor<?>[] constructors = Uncomputery.class.getDeclaredConstructors();
        Script.same("constructors", constructors.length, 1);
        Script.same("the constructor", constructors[0].toString(), "public Uncomputery()");
        for (Method method : Uncomputery.class.getDeclaredMethods()) {
            if (Modifier.isPrivate(method.getModifiers())) {
                Script.same(method.getName() + " bears a public name", names.contains(method.getName()), false);
                Script.same(method + " is a lambda", method.getName().startsWith("lambda$"), false);
            }
        }
        for (Class<?> inside : Uncomputery.class.getDeclaredClasses()) {
            for (Method method : inside.getDeclaredMethods()) {
                Script.same(method + " is a lambda", method.getName().startsWith("lambda$"), false);
                Script.same(inside.getSimpleName() + "." + method.getName() + " is private and bears a public name",
                        Modifier.isPrivate(method.getModifiers()) && names.contains(method.getName()), false);
            }
        }
    }

    private static void insides() {
        fields(Uncomputery.class);
        for (Class<?> inside : Uncomputery.class.getDeclaredClasses()) {
            int modifiers = inside.getModifiers();
            Script.same(inside + " is private or package-visible",
                    Modifier.isPublic(modifiers) || Modifier.isProtected(modifiers), false);
            fields(inside);
        }
    }

    private static void fields(Class<?> owner) {
        for (Field field : owner.getDeclaredFields()) {
            int modifiers = field.getModifiers();
            Script.same(field + " is no static state", Modifier.isStatic(modifiers) && !Modifier.isFinal(modifiers), false);
            if (owner == Uncomputery.class) {
                Script.same(field + " is private", Modifier.isPrivate(modifiers) || field.isSynthetic(), true);
            }
        }
    }

    /** Words that the rules leave no room for, with the number of the rule; a word is looked for in code alone. */
    private static void source() throws IOException {
        String text = new String(Files.readAllBytes(Paths.get("src/main/java/Uncomputery.java")), StandardCharsets.UTF_8);
        String code = text.replaceAll("(?s)/[*].*?[*]/", " ").replaceAll("//[^\n]*", " ").replaceAll("\"([^\"\\\\]|\\\\.)*\"", "\"\"");
        String[] ruledOut = {"1 package ", "2 ::", "3 Math.sqrt", "3 Map<", "4 Exact(", "4 System.out", "4 System.err", "4 String.format",
            "6 finally", "6 synchronized", "6 assert ", "6 getMessage", "6 Throwable", "6 catch (Exception", "6 catch (RuntimeException", "6 catch (ArrayIndexOutOfBounds",
            "6 catch (NullPointer", "6 catch (ClassCast", "6 catch (NegativeArraySize", "6 catch (ArrayStore", "6 hashCode(", "13 Random",
            "13 currentTimeMillis", "13 nanoTime", "13 Thread", "13 java.io", "13 java.nio", "13 java.net", "13 getenv", "13 getProperty"};
        for (String word : ruledOut) {
            int end = word.indexOf(' ');
            Script.same("rule " + word.substring(0, end) + ": the class has " + word.substring(end + 1),
                    code.contains(word.substring(end + 1)), false);
        }
        List<String> known = Arrays.asList("ArrayList", "List", "Arrays", "Iterator", "NoSuchElementException");
        for (String line : code.split("\n")) {
            if (line.startsWith("import ")) {
                String name = line.substring(7, line.indexOf(';'));
                Script.same("rule 4: " + line, name.startsWith("java.util.") && known.contains(name.substring(10)), true);
            }
        }
    }
}
