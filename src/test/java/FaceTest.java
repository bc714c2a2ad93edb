import java.io.IOException;
import java.lang.reflect.Constructor;
import java.lang.reflect.Field;
import java.lang.reflect.Method;
import java.lang.reflect.Modifier;
import java.nio.charset.StandardCharsets;
import java.nio.file.Files;
import java.nio.file.Paths;
import java.util.Arrays;
import java.util.HashSet;
import java.util.Set;
import java.util.TreeSet;

/** The class has the face of the document and no more, and keeps to the rules that can be seen from outside. */
public final class FaceTest {
    private static final String[] FACE = {
        "int type(char) IllegalStateException", "int wipe()", "int fault() NoSuchElementException",
        "char faultKind() NoSuchElementException", "int define() IllegalArgumentException IllegalStateException",
        "int invert(int) IndexOutOfBoundsException IllegalStateException", "int length(int) IndexOutOfBoundsException",
        "char signAt(int int) IndexOutOfBoundsException", "int size(int) IndexOutOfBoundsException",
        "char instruction(int int) IndexOutOfBoundsException", "int set(char int) IllegalArgumentException",
        "int get(char) IllegalArgumentException", "int stacked()", "int stackAt(int) IndexOutOfBoundsException",
        "int start(int boolean) IndexOutOfBoundsException", "int go(int boolean) IllegalArgumentException IllegalStateException",
        "char state()", "int place() IllegalStateException", "int inside() IllegalStateException", "int depth() IllegalStateException",
        "boolean isAhead() IllegalStateException", "char why(int) NoSuchElementException", "int whyNumber(int) NoSuchElementException",
        "int run(int boolean) IndexOutOfBoundsException UnsupportedOperationException", "long erase(char) IllegalArgumentException",
        "long steps()", "int image(int char int) IndexOutOfBoundsException IllegalArgumentException NoSuchElementException",
        "int works(int char) IndexOutOfBoundsException IllegalArgumentException",
        "int alike(int char) IndexOutOfBoundsException IllegalArgumentException",
        "int gate(int int) IllegalArgumentException IllegalStateException", "int dropGate() NoSuchElementException", "int gates()",
        "int through(int) IllegalArgumentException", "int backThrough(int) IllegalArgumentException", "int turnRound()", "int simplify()",
        "int made()", "int madeAt(int) IndexOutOfBoundsException", "int leastGates()", "int cycles()", "int order()",
        "int setImage(int int) IllegalArgumentException", "int garbage()", "float forgotten()",
        "int pebbles(int int) IllegalArgumentException NoSuchElementException", "int fewestPebbles(int) IllegalArgumentException",
        "int procedures()", "long checksum()", "double meanSize() NoSuchElementException", "boolean isSound()"};

    public static void main(String[] args) throws IOException {
        face();
        insides();
        source();
        Script.end("FaceTest");
    }

    private static String written(Method method) {
        StringBuilder text = new StringBuilder(method.getReturnType().getSimpleName());
        text.append(' ').append(method.getName()).append('(');
        for (Class<?> type : method.getParameterTypes()) {
            text.append(text.charAt(text.length() - 1) == '(' ? "" : " ").append(type.getSimpleName());
        }
        text.append(')');
        for (Class<?> type : method.getExceptionTypes()) {
            text.append(' ').append(type.getSimpleName());
        }
        return text.toString();
    }

    private static void face() {
        Set<String> found = new TreeSet<>();
        Set<String> names = new HashSet<>();
        for (Method method : Uncomputery.class.getDeclaredMethods()) {
            if (!Modifier.isPrivate(method.getModifiers())) {
                found.add(written(method));
                names.add(method.getName());
                Script.same(method + " is public", Modifier.toString(method.getModifiers()), "public");
            }
        }
        Script.same("the face", found, new TreeSet<>(Arrays.asList(FACE)));
        Script.same("the class", Modifier.toString(Uncomputery.class.getModifiers()), "public final");
        Constructor<?>[] constructors = Uncomputery.class.getDeclaredConstructors();
        Script.same("constructors", constructors.length, 1);
        Script.same("the constructor", constructors[0].toString(), "public Uncomputery()");
        for (Method method : Uncomputery.class.getDeclaredMethods()) {
            if (Modifier.isPrivate(method.getModifiers())) {
                Script.same(method.getName() + " bears a public name", names.contains(method.getName()), false);
            }
        }
        for (Class<?> inside : Uncomputery.class.getDeclaredClasses()) {
            for (Method method : inside.getDeclaredMethods()) {
                Script.same(inside.getSimpleName() + "." + method.getName() + " bears a public name",
                        names.contains(method.getName()), false);
            }
        }
    }

    private static void insides() {
        Class<?>[] insides = Uncomputery.class.getDeclaredClasses();
        Script.same("at most 12 classes", insides.length < 12, true);
        fields(Uncomputery.class);
        for (Class<?> inside : insides) {
            int modifiers = inside.getModifiers();
            Script.same(inside + " is private and static", Modifier.isPrivate(modifiers) && Modifier.isStatic(modifiers), true);
            fields(inside);
        }
    }

    private static void fields(Class<?> owner) {
        int count = 0;
        for (Field field : owner.getDeclaredFields()) {
            int modifiers = field.getModifiers();
            if (Modifier.isStatic(modifiers)) {
                Script.same(field + " is final", Modifier.isFinal(modifiers), true);
                Script.same(field + " is a constant", field.getType().isPrimitive(), true);
            } else {
                count++;
            }
            if (owner == Uncomputery.class) {
                Script.same(field + " is private", Modifier.isPrivate(modifiers), true);
            }
        }
        Script.same(owner + " has at most 20 fields", count <= 20, true);
    }

    private static void source() throws IOException {
        String text = new String(Files.readAllBytes(Paths.get("src/main/java/Uncomputery.java")), StandardCharsets.UTF_8);
        String[] ruledOut = {"catch", "finally", "synchronized", "assert", "->", "::", "Exact", "String ", "Random", "System.currentTime",
            "nanoTime", "Thread", "enum ", "instanceof", "hashCode", "equals(", "toString"};
        for (String word : ruledOut) {
            Script.same("the source has " + word, text.contains(word), false);
        }
        Script.same("imports", text.split("import ", -1).length - 1, 2);
        for (int i = 0; i < text.length(); i++) {
            if (text.charAt(i) > 126) {
                Script.same("sign at " + i, text.charAt(i), "an ASCII sign");
            }
        }
    }
}
