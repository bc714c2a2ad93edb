import java.util.ArrayList;
import java.util.Arrays;
import java.util.List;

/** The boundary cases of promises 1 and 48 to 51, a test for each sentence: a new object, and figures over all of it. */
public final class EdgesOfFiguresTest {
    private static final String BEHIND = "throws IndexOutOfBoundsException";
    private static final String NONE = "throws NoSuchElementException";
    private static final String REFUSED = "throws IllegalArgumentException";
    private static final String FULL = "!a;!b;!c;!d;!e;!f;!g;!h;!a;!b;!c;!d;!e;!f;!g;!h;!a;!b;a+11+1";
    private static final String NESTED = "[00=0:{01=0:[002=0:{3=0:[4=0:|:0=4]|:0=3}|:0=2]|:0=1}|:0=a]";

    public static void main(String[] args) {
        newObject();
        newObjectsApart();
        lastCalls();
        procedures();
        checksumOfVariables();
        checksumOfStack();
        checksumOfBits();
        checksumGoesRound();
        meanSize();
        meanSizeConverted();
        isSound();
        isSoundChangesNothing();
        Script.allPromised(1, 1);
        Script.allPromised(48, 51);
        Script.end("EdgesOfFiguresTest");
    }

    private static String[] join(String[] first, String... others) {
        List<String> lines = new ArrayList<>(Arrays.asList(first));
        lines.addAll(Arrays.asList(others));
        return lines.toArray(new String[0]);
    }

    private static String[] times(int count, String line) {
        String[] lines = new String[count];
        Arrays.fill(lines, line);
        return lines;
    }

    private static void newObject() {
        Script.promise(1, "without procedures", "procedures = 0", "length 0 = " + BEHIND, "size 0 = " + BEHIND, "start 0 true = " + BEHIND,
                "run 0 true = " + BEHIND, "meanSize = " + NONE);
        Script.promise(1, "with all variables 0", "get a = 0", "get b = 0", "get c = 0", "get d = 0", "get e = 0", "get f = 0", "get g = 0",
                "get h = 0");
        Script.promise(1, "a circuit without gates", "gates = 0", "dropGate = " + NONE, "through 5 = 5", "made = 0", "leastGates = 0");
        Script.promise(1, "its text is empty", "fault = " + NONE, "wipe = 0");
        Script.promise(1, "its stack is empty", "stacked = 0", "stackAt 0 = " + BEHIND);
        Script.promise(1, "none was begun", "state = -", "place = throws IllegalStateException");
        Script.promise(1, "no step was done", "steps = 0");
        Script.promise(1, "no bit was erased", "erase a = 0");
        Script.promise(1, "images are 0", "forgotten = 0.875", "garbage = 3");
    }

    private static void newObjectsApart() {
        Uncomputery used = new Uncomputery();
        Script.say(used, "a+5;!a;b+3");
        used.start(0, true);
        used.go(3, false);
        used.erase('b');
        used.gate(1, 5);
        used.setImage(3, 3);
        used.type('x');
        String before = "1 1 - 0 0 7 0.875 0 0";
        Uncomputery fresh = new Uncomputery();
        String seen = (fresh.procedures() + 1) + " " + (fresh.stacked() + 1) + " " + fresh.state() + " " + fresh.steps() + " "
                + fresh.gates() + " " + fresh.through(7) + " " + fresh.forgotten() + " " + fresh.erase('b') + " " + fresh.wipe();
        Script.same("promise 1: what another object did is not there", seen, before);
        Script.same("promise 1: the other object keeps it", used.procedures() + " " + used.stackAt(0) + " " + used.gates(), "1 5 1");
    }

    private static void lastCalls() {
        String[] lines = new String[512];
        for (int i = 0; i < 508; i += 2) {
            lines[i] = "set a " + (i + 2) + " = " + i;
            lines[i + 1] = "get a = " + (i + 2);
        }
        lines[508] = "erase a = 7";
        lines[509] = "type a = 1";
        lines[510] = "gate 2 3 = 1";
        lines[511] = "checksum = 185077355124704";
        Script.promise(1, "an object is used for 512 calls, of which the last ones answer as the first ones", lines);
    }

    private static void procedures() {
        Script.promise(48, "0 at first", "procedures = 0");
        Script.promise(48, "1 with one, though its text is empty", "define = 0", "procedures = 1");
        Script.promise(48, "6 at most", join(times(6, "say a+1"), "procedures = 6", "define = throws IllegalStateException",
                "invert 0 = throws IllegalStateException", "procedures = 6"));
        Script.promise(48, "those made of the text backward count", "say a+1", "invert 0 = 1", "procedures = 2", "invert 1 = 2",
                "procedures = 3");
        Script.promise(48, "a text with a fault makes none", "text a+", "define = " + REFUSED, "procedures = 0");
        Script.promise(48, "a procedure that is missing makes none", "invert 0 = " + BEHIND, "procedures = 0");
        Script.promise(48, "a text that is just typed is none", "text a+1", "procedures = 0", "wipe = 3", "procedures = 0");
        Script.promise(48, "runs and tables make none", "say a+1", "run 0 true = 1", "works 0 a = 16", "isSound = true", "procedures = 1");
    }

    /** The checksum as the document tells it. */
    private static String sum(int[] variables, int[] stack, long bits) {
        long sum = 7;
        for (int value : variables) {
            sum = 31 * sum + value;
        }
        for (int value : stack) {
            sum = 31 * sum + value;
        }
        return "checksum = " + (31 * sum + bits);
    }

    private static int[] row(int... values) {
        return values;
    }

    private static void checksumOfVariables() {
        Script.promise(49, "7 at first, all else being 0", "checksum = 185077355124697", sum(new int[8], row(), 0));
        Script.promise(49, "for each variable: the first one is the first", "set a 1", sum(row(1, 0, 0, 0, 0, 0, 0, 0), row(), 0));
        Script.promise(49, "for each variable: the last one is the last", "set h 1", sum(row(0, 0, 0, 0, 0, 0, 0, 1), row(), 0));
        Script.promise(49, "for each variable: all of them in their order", "set a 1", "set b 2", "set c 3", "set d 4", "set e 5", "set f 6",
                "set g 7", "set h 8", sum(row(1, 2, 3, 4, 5, 6, 7, 8), row(), 0));
        Script.promise(49, "plus a variable below 0", "set h -1", sum(row(0, 0, 0, 0, 0, 0, 0, -1), row(), 0), "set h -2147483648",
                sum(row(0, 0, 0, 0, 0, 0, 0, -2147483648), row(), 0));
        Script.promise(49, "plus the greatest variables", "set a 2147483647", "set h 2147483647",
                sum(row(2147483647, 0, 0, 0, 0, 0, 0, 2147483647), row(), 0));
    }

    private static void checksumOfStack() {
        Script.promise(49, "an empty stack adds none", "say !a", "set a 5", "run 0 true = 1", "run 0 false = 1",
                sum(row(5, 0, 0, 0, 0, 0, 0, 0), row(), 0));
        Script.promise(49, "one value on the stack", "say !a", "set a 5", "run 0 true = 1", sum(new int[8], row(5), 0));
        Script.promise(49, "a value 0 on the stack counts", "say !a", "run 0 true = 1", sum(new int[8], row(0), 0), "run 0 true = 1",
                sum(new int[8], row(0, 0), 0));
        Script.promise(49, "each value on the stack from the first one on", "say !a;!b;!c", "set a 5", "set b 6", "set c -7", "run 0 true = 3",
                "stackAt 0 = -7", sum(new int[8], row(5, 6, -7), 0));
        int[] stack = new int[20];
        List<String> lines = new ArrayList<>(Arrays.asList("say !a"));
        for (int i = 0; i < stack.length; i++) {
            stack[i] = 3 * i - 20;
            lines.add("set a " + stack[i]);
            lines.add("run 0 true = 1");
        }
        Script.promise(49, "all 20 of a full stack", join(lines.toArray(new String[0]), sum(new int[8], stack, 0)));
        Script.promise(49, "values that were taken from the stack are none", "say !a;!b", "say ?h", "set a 5", "set b 6", "run 0 true = 2",
                "run 1 true = 1", sum(row(0, 0, 0, 0, 0, 0, 0, 6), row(5), 0));
    }

    private static void checksumOfBits() {
        Script.promise(49, "at last the bits erased", "set a 7", "erase a = 3", sum(new int[8], row(), 3));
        Script.promise(49, "the bits erased so far, not those of the last time", "set a -1", "erase a = 32", "set b 1", "erase b = 33",
                "erase c = 33", sum(new int[8], row(), 33));
        Script.promise(49, "the bits erased behind the stack", "say !a", "set a 5", "run 0 true = 1", "set c 1", "erase c = 1",
                sum(new int[8], row(5), 1));
        Script.promise(49, "asked twice it is the same", "set a 7", "erase a = 3", sum(new int[8], row(), 3), sum(new int[8], row(), 3));
        Script.promise(49, "steps, gates and texts add none", "say a+1;a-1", "run 0 true = 2", "gate 0 0", "setImage 1 1", "type a",
                sum(new int[8], row(), 0));
    }

    private static void checksumGoesRound() {
        int[] variables = new int[8];
        Arrays.fill(variables, 2147483647);
        List<String> lines = new ArrayList<>(Arrays.asList("say !a"));
        for (int i = 0; i < 20; i++) {
            lines.add("set a 2147483647");
            lines.add("run 0 true = 1");
        }
        int[] stack = new int[20];
        Arrays.fill(stack, 2147483647);
        for (char variable = 'a'; variable <= 'h'; variable++) {
            lines.add("set " + variable + " 2147483647");
        }
        lines.add(sum(variables, stack, 0));
        Script.promise(49, "as longs go round", lines.toArray(new String[0]));
        Script.promise(49, "as longs go round, not as ints do", "set a 2147483647", "checksum = 5342077357521742040");
    }

    private static void meanSize() {
        Script.promise(50, "NoSuchElementException if there are none", "meanSize = " + NONE);
        Script.promise(50, "NoSuchElementException if none could be made", "text a+", "define = " + REFUSED, "meanSize = " + NONE);
        Script.promise(50, "0 of an empty procedure", "define = 0", "meanSize = 0.0");
        Script.promise(50, "the size of one", "say a+1;b+1", "meanSize = 2.0");
        Script.promise(50, "empty ones count", "say a+1;b+1", "define = 1", "meanSize = 1.0");
        Script.promise(50, "choices and loops have three more", "say [a=0:b+1|:a=0]", "meanSize = 4.0", "say {a=0:|:a=0}", "meanSize = 3.5");
        Script.promise(50, "those of the text backward count", "say a+1;b+1;c+1", "define = 1", "invert 0 = 2", "meanSize = 2.0");
        Script.promise(50, "all 6 of them, the last one, too", join(times(5, "say a+1"), "say a+1;b+1;c+1;d+1;e+1;f+1;g+1",
                "meanSize = 2.0"));
        Script.promise(50, "the greatest, 20", "say !a;!a;!a;!a;!a;!a;!a;!a;!a;!a;!a;!a;!a;!a;!a;!a;!a;!a;!a;!a", "meanSize = 20.0");
    }

    private static void meanSizeConverted() {
        Script.promise(50, "both converted to double: a half", "say a+1", "define = 1", "meanSize = 0.5");
        Script.promise(50, "both converted to double: a third", "say a+1", "define = 1", "define = 2", "meanSize = 0.3333333333333333");
        Script.promise(50, "both converted to double: two thirds", "say a+1;b+1", "define = 1", "define = 2", "meanSize = 0.6666666666666666");
        Script.promise(50, "both converted to double: a sixth", join(times(5, "define"), "say a+1", "meanSize = 0.16666666666666666"));
    }

    private static void isSound() {
        Script.promise(51, "true of a new object", "isSound = true");
        Script.promise(51, "true of an empty procedure", "define = 0", "isSound = true");
        Script.promise(51, "true though the text has zeros ahead, which do not come back", "say a+001;[01=a:|:a=000]", "isSound = true");
        Script.promise(51, "true of a full text", "say " + FULL, "isSound = true");
        Script.promise(51, "true of brackets within one another", "say " + NESTED, "isSound = true");
        Script.promise(51, "each procedure's own text: a shorter one behind a longer one", "say a+1+b;c-d*9", "say a+1;c-d", "say a+1",
                "isSound = true", "say [a=b:a+1-c|:b=a]", "define = 4", "isSound = true");
        Script.promise(51, "true of procedures that break", "say ?a;@5", "run 0 true = throws UnsupportedOperationException",
                "isSound = true");
        Script.promise(51, "true of 6 procedures", join(times(6, "say {a=0:b+09|?c:a>1}"), "isSound = true", "procedures = 6"));
        Script.promise(51, "true of 24 gates", join(times(24, "gate 1 5"), "isSound = true"));
        Script.promise(51, "true of a circuit for which the most gates are made", "gate 1 5", "gate 0 6", "gate 2 0", "gate 2 1", "gate 1 4",
                "gate 0 6", "made = 17", "isSound = true");
        Script.promise(51, "true though the text that is typed has a fault", "text a+", "isSound = true", "fault = 2");
    }

    private static void isSoundChangesNothing() {
        Script.promise(51, "makes no procedure, though there is room", "say a+1", "isSound = true", "procedures = 1", "textOf 0 = a+1");
        Script.promise(51, "leaves the text", "text a+1", "isSound = true", "wipe = 3");
        Script.promise(51, "leaves the run that was begun", "say a+1;b+1", "start 0 true = 0", "go 1 false = 1", "isSound = true", "state = g",
                "place = 1", "steps = 1", "go 1 false = 1");
        Script.promise(51, "leaves a broken run", "say ?a", "start 0 true = 0", "go 1 false = 0", "isSound = true", "state = b", "why 0 = e");
        Script.promise(51, "leaves the circuit", "gate 1 1", "gate 0 6", "isSound = true", "gates = 2", "dropGate = 6", "dropGate = 9");
    }
}
