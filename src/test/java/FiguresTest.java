import java.util.ArrayList;
import java.util.List;

/** Promises 1 and 48 to 51: a new object, and figures over all of it. */
public final class FiguresTest {
    public static void main(String[] args) {
        newObject();
        apart();
        procedures();
        checksums();
        sound();
        Script.end("FiguresTest");
    }

    private static void newObject() {
        List<String> lines = new ArrayList<>();
        lines.add("procedures = 0");
        lines.add("gates = 0");
        lines.add("stacked = 0");
        lines.add("state = -");
        lines.add("steps = 0");
        lines.add("wipe = 0");
        lines.add("fault = throws NoSuchElementException");
        lines.add("meanSize = throws NoSuchElementException");
        lines.add("isSound = true");
        for (char variable = 'a'; variable <= 'h'; variable++) {
            lines.add("get " + variable + " = 0");
        }
        for (int value = 0; value < 8; value++) {
            lines.add("through " + value + " = " + value);
            lines.add("setImage " + value + " 0 = 0");
        }
        lines.add("checksum = " + due(new int[8], new int[0], 0));
        lines.add("erase a = 0");
        Script.run("a new object", lines.toArray(new String[0]));
    }

    private static void apart() {
        Uncomputery used = new Uncomputery();
        Script.say(used, "a+1;!a");
        used.run(0, true);
        used.gate(1, 1);
        used.setImage(1, 1);
        Uncomputery other = new Uncomputery();
        Script.same("another object's procedures", other.procedures(), 0);
        Script.same("another object's stack", other.stacked(), 0);
        Script.same("another object's gates", other.gates(), 0);
        Script.same("another object's images", other.forgotten(), 0.875f);
        Script.same("another object's steps", other.steps(), 0L);
        Script.same("the used one's stack", used.stacked(), 1);
    }

    private static void procedures() {
        Script.run("procedures", "procedures = 0", "meanSize = throws NoSuchElementException", "say a+1;b+1;c+1", "procedures = 1",
                "meanSize = 3.0", "define = 1", "procedures = 2", "meanSize = 1.5", "invert 0 = 2", "procedures = 3", "meanSize = 2.0",
                "text a+", "define = throws IllegalArgumentException", "procedures = 3", "wipe = 2", "say [a=0:|:a=0]", "meanSize = 2.25",
                "say !a", "meanSize = 2.0", "say ?a", "procedures = 6", "meanSize = " + 11.0 / 6.0);
        Script.run("a mean that does not come out even", "say a+1;b+1", "define = 1", "define = 2", "meanSize = " + 2.0 / 3.0);
    }

    private static long due(int[] variables, int[] stack, long erased) {
        long sum = 7;
        for (int value : variables) {
            sum = 31 * sum + value;
        }
        for (int value : stack) {
            sum = 31 * sum + value;
        }
        return 31 * sum + erased;
    }

    private static void checksums() {
        Script.run("checksums", "set a 1", "checksum = " + due(new int[] {1, 0, 0, 0, 0, 0, 0, 0}, new int[0], 0), "set h -5",
                "checksum = " + due(new int[] {1, 0, 0, 0, 0, 0, 0, -5}, new int[0], 0), "set d 2147483647", "set e -2147483648",
                "checksum = " + due(new int[] {1, 0, 0, 2147483647, -2147483648, 0, 0, -5}, new int[0], 0), "say !a;!h", "run 0 true = 2",
                "checksum = " + due(new int[] {0, 0, 0, 2147483647, -2147483648, 0, 0, 0}, new int[] {1, -5}, 0), "erase d = 31",
                "checksum = " + due(new int[] {0, 0, 0, 0, -2147483648, 0, 0, 0}, new int[] {1, -5}, 31), "erase e = 32",
                "checksum = " + due(new int[8], new int[] {1, -5}, 32), "say ?b", "run 1 true = 1",
                "checksum = " + due(new int[] {0, -5, 0, 0, 0, 0, 0, 0}, new int[] {1}, 32), "set b 2", "checksum = "
                + due(new int[] {0, 2, 0, 0, 0, 0, 0, 0}, new int[] {1}, 32));
        List<String> lines = new ArrayList<>();
        lines.add("say !c");
        int[] stack = new int[20];
        for (int i = 0; i < 20; i++) {
            stack[i] = 1000003 * (i + 1);
            lines.add("set c " + stack[i]);
            lines.add("run 0 true = 1");
        }
        lines.add("checksum = " + due(new int[8], stack, 0));
        Script.run("a checksum that goes round", lines.toArray(new String[0]));
    }

    private static void sound() {
        Script.run("sound", "isSound = true", "say [001=a:|!b;[0=0:|:1=1];!c:b<00]", "isSound = true", "say {a=000:a+001|b-099;@5:a=007};$0;a~h;?g", "isSound = true", "invert 1 = 2", "isSound = true",
                "gate 1 5", "gate 1 4", "gate 0 4", "gate 2 3", "gate 0 4", "isSound = true", "gate 0 0", "gate 2 2", "isSound = true",
                "gates = 7", "size 1 = 9");
    }
}
