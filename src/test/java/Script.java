import java.lang.reflect.InvocationTargetException;
import java.lang.reflect.Method;
import java.util.ArrayList;
import java.util.Arrays;
import java.util.List;

/**
 * Runs calls that are written as lines on a new object, and tells every answer that is not the one that is due.
 *
 * A line is a call with its arguments, then " = " and the answer: a number, a sign, true or false, or the
 * exception's name behind "throws ". The line "text T" empties the text and types all signs of T; "say T" makes
 * a procedure of T. Signs are written as they are, others by their number behind #. There are calls of the
 * script's own: "faultOf T" types T as "text T" does, and answers the place and the letter of its fault, or none;
 * "textOf P" answers the whole text of a procedure, and "signsOf P" all of its instructions.
 *
 * Where an exception is due, the call is made once more on another object, and all that can be seen of that one
 * must be as on a third one on which it was not made: a refused call changes nothing.
 */
final class Script {
    private static final int PROMISES = 51;
    private static final boolean[] PROMISED = new boolean[PROMISES + 1];
    private static int wrong = 0;
    private static int checked = 0;

    private Script() {
    }

    static void run(String name, String... lines) {
        Uncomputery object = new Uncomputery();
        for (int i = 0; i < lines.length; i++) {
            checkLine(name, object, lines[i]);
            if (lines[i].contains(" = throws ")) {
                checkNothingChanged(name, lines, i);
            }
        }
    }

    /** A test of its own for one sentence of the document, under the promise that it is a part of. */
    static void promise(int number, String sentence, String... lines) {
        PROMISED[number] = true;
        run("promise " + number + ": " + sentence, lines);
    }

    /** Tells each of these promises for which no sentence was tested. */
    static void allPromised(int from, int to) {
        for (int i = from; i <= to; i++) {
            same("sentences tested of promise " + i, PROMISED[i], true);
        }
    }

    static void same(String what, Object got, Object due) {
        checked++;
        if (!got.equals(due)) {
            wrong++;
            System.out.println(what + " answered " + got + ", due is " + due);
        }
    }

    static void end(String name) {
        System.out.println(name + ": " + checked + " answers, " + wrong + " of them not as due");
        if (wrong != 0 || checked == 0) {
            System.exit(1);
        }
    }

    /** A new object on which these lines were run, whatever they answered. */
    static Uncomputery prepared(String... lines) {
        Uncomputery object = new Uncomputery();
        for (String line : lines) {
            repeat(object, line);
        }
        return object;
    }

    /** Types a text on an object that has none. */
    static void type(Uncomputery object, String text) {
        for (int i = 0; i < text.length(); i++) {
            object.type(text.charAt(i));
        }
    }

    static int say(Uncomputery object, String text) {
        type(object, text);
        return object.define();
    }

    static String textOf(Uncomputery object, int procedure) {
        StringBuilder text = new StringBuilder();
        for (int i = 0; i < object.length(procedure); i++) {
            text.append(object.signAt(procedure, i));
        }
        return text.toString();
    }

    static String instructionsOf(Uncomputery object, int procedure) {
        StringBuilder signs = new StringBuilder();
        for (int i = 0; i < object.size(procedure); i++) {
            signs.append(object.instruction(procedure, i));
        }
        return signs.toString();
    }

    /** The fault of a text as its place and its letter, or "none". */
    static String faultOf(Uncomputery object) {
        String place = answer(object, "fault");
        String letter = answer(object, "faultKind");
        String none = "throws NoSuchElementException";
        return place.equals(none) && letter.equals(none) ? "none" : place + letter;
    }

    private static void checkLine(String name, Uncomputery object, String line) {
        if (line.startsWith("text ")) {
            object.wipe();
            type(object, line.substring(5));
            return;
        }
        if (line.startsWith("say ")) {
            say(object, line.substring(4));
            return;
        }
        int end = line.lastIndexOf(" = ");
        if (end < 0) {
            answer(object, line);
            return;
        }
        same(name + ": " + line.substring(0, end), answer(object, line.substring(0, end)), line.substring(end + 3));
    }

    private static void checkNothingChanged(String name, String[] lines, int index) {
        Uncomputery without = new Uncomputery();
        Uncomputery with = new Uncomputery();
        for (int i = 0; i < index; i++) {
            if (!lines[i].contains(" = throws ")) {
                repeat(without, lines[i]);
                repeat(with, lines[i]);
            }
        }
        repeat(with, lines[index]);
        same(name + ": after " + lines[index], picture(with), picture(without));
    }

    private static void repeat(Uncomputery object, String line) {
        if (line.startsWith("text ")) {
            object.wipe();
            type(object, line.substring(5));
        } else if (line.startsWith("say ")) {
            say(object, line.substring(4));
        } else {
            int end = line.lastIndexOf(" = ");
            answer(object, end < 0 ? line : line.substring(0, end));
        }
    }

    /** All that can be seen of an object, which is used up by it. */
    static String picture(Uncomputery object) {
        List<String> calls = new ArrayList<>(Arrays.asList("fault", "faultKind", "stacked", "state", "place", "inside",
                "depth", "isAhead", "why 0", "whyNumber 0", "why 1", "whyNumber 1", "steps", "checksum", "procedures",
                "meanSize", "gates", "garbage", "forgotten", "isSound"));
        for (char variable = 'a'; variable <= 'h'; variable++) {
            calls.add("get " + variable);
        }
        for (int i = 0; i < object.stacked(); i++) {
            calls.add("stackAt " + i);
        }
        for (int i = 0; i < object.procedures(); i++) {
            calls.add("size " + i);
        }
        for (int i = 0; i < 8; i++) {
            calls.add("setImage " + i + " 0");
        }
        for (int i = object.gates(); i >= 0; i--) {
            calls.add("dropGate");
        }
        calls.addAll(Arrays.asList("go 500 false", "state", "place", "depth", "go 500 true", "state", "place", "erase a",
                "define", "wipe"));
        StringBuilder seen = new StringBuilder();
        for (int i = 0; i < object.procedures(); i++) {
            seen.append(textOf(object, i)).append('\n');
        }
        for (String call : calls) {
            seen.append(call).append(" = ").append(answer(object, call)).append("; ");
        }
        return seen.toString();
    }

    static String answer(Uncomputery object, String call) {
        if (call.startsWith("faultOf ")) {
            object.wipe();
            type(object, call.substring(8));
            return faultOf(object);
        }
        String[] parts = call.split(" ");
        if (parts[0].equals("textOf")) {
            return textOf(object, Integer.parseInt(parts[1]));
        }
        if (parts[0].equals("signsOf")) {
            return instructionsOf(object, Integer.parseInt(parts[1]));
        }
        Method method = methodOf(parts[0]);
        Class<?>[] types = method.getParameterTypes();
        Object[] arguments = new Object[types.length];
        for (int i = 0; i < types.length; i++) {
            arguments[i] = argumentOf(types[i], parts[i + 1]);
        }
        try {
            return String.valueOf(method.invoke(object, arguments));
        } catch (InvocationTargetException e) {
            return "throws " + e.getCause().getClass().getSimpleName();
        } catch (IllegalAccessException e) {
            return "no access";
        }
    }

    private static Object argumentOf(Class<?> type, String written) {
        if (type == char.class) {
            return written.length() > 1 && written.charAt(0) == '#'
                    ? (char) Integer.parseInt(written.substring(1)) : written.charAt(0);
        }
        return type == boolean.class ? (Object) Boolean.valueOf(written) : (Object) Integer.valueOf(written);
    }

    private static Method methodOf(String name) {
        for (Method method : Uncomputery.class.getMethods()) {
            if (method.getName().equals(name)) {
                return method;
            }
        }
        throw new IllegalStateException("no call " + name);
    }
}
