/** Promises 31 to 42: gates, what comes of values, simplifying, the circuit made by the rule, the least gates. */
public final class CircuitsTest {
    public static void main(String[] args) {
        gates();
        through();
        turning();
        simplifying();
        simplifyingMore();
        making();
        makingMore();
        least();
        cycles();
        Script.end("CircuitsTest");
    }

    private static void gates() {
        Script.run("gates", "gates = 0", "dropGate = throws NoSuchElementException", "gate 0 0 = 1", "gate 1 5 = 2", "gate 2 3 = 3",
                "gates = 3", "dropGate = 19", "dropGate = 13", "gates = 1", "gate 0 6 = 2", "dropGate = 6", "dropGate = 0",
                "dropGate = throws NoSuchElementException", "gates = 0", "gate 2 0 = 1", "gate 2 1 = 2", "gate 2 2 = 3", "gate 1 4 = 4",
                "gate 1 1 = 5", "gate 0 2 = 6", "gate 0 4 = 7", "dropGate = 4", "dropGate = 2", "dropGate = 9", "dropGate = 12");
        Script.run("refused gates", "gate 0 2", "gate -1 0 = throws IllegalArgumentException", "gate 3 0 = throws IllegalArgumentException",
                "gate 0 -1 = throws IllegalArgumentException", "gate 0 8 = throws IllegalArgumentException",
                "gate 0 1 = throws IllegalArgumentException", "gate 0 7 = throws IllegalArgumentException",
                "gate 1 2 = throws IllegalArgumentException", "gate 1 6 = throws IllegalArgumentException",
                "gate 2 4 = throws IllegalArgumentException", "gate 2 5 = throws IllegalArgumentException",
                "gate 32 0 = throws IllegalArgumentException", "gate 2147483647 -2147483648 = throws IllegalArgumentException",
                "gates = 1", "dropGate = 2");
        String[] lines = new String[32];
        for (int i = 0; i < 24; i++) {
            lines[i] = "gate 1 4 = " + (i + 1);
        }
        lines[24] = "gate 1 4 = throws IllegalStateException";
        lines[25] = "gate 1 2 = throws IllegalArgumentException";
        lines[26] = "gate 3 0 = throws IllegalArgumentException";
        lines[27] = "gates = 24";
        lines[28] = "through 4 = 4";
        lines[29] = "dropGate = 12";
        lines[30] = "through 4 = 6";
        lines[31] = "gate 0 0 = 24";
        Script.run("24 gates", lines);
    }

    /** Lines of what comes of the values 0 to 7, ahead and back. */
    private static void outputs(String name, int[] outputs, String... lines) {
        String[] all = new String[lines.length + 16];
        System.arraycopy(lines, 0, all, 0, lines.length);
        for (int value = 0; value < 8; value++) {
            all[lines.length + 2 * value] = "through " + value + " = " + outputs[value];
            all[lines.length + 2 * value + 1] = "backThrough " + outputs[value] + " = " + value;
        }
        Script.run(name, all);
    }

    private static void through() {
        outputs("no gates", new int[] {0, 1, 2, 3, 4, 5, 6, 7});
        outputs("no controls", new int[] {2, 3, 0, 1, 6, 7, 4, 5}, "gate 1 0");
        outputs("one control", new int[] {0, 5, 2, 7, 4, 1, 6, 3}, "gate 2 1");
        outputs("two controls", new int[] {0, 1, 2, 3, 4, 7, 6, 5}, "gate 1 5");
        outputs("two gates", new int[] {2, 7, 4, 1, 6, 3, 0, 5}, "gate 2 1", "gate 2 2", "gate 1 0");
        outputs("the order counts", new int[] {1, 3, 2, 0, 5, 7, 6, 4}, "gate 1 1", "gate 0 0", "gate 0 2");
        outputs("six gates", new int[] {0, 1, 3, 6, 5, 4, 2, 7}, "gate 0 6", "gate 1 0", "gate 0 6", "gate 1 0", "gate 2 3", "gate 0 2");
        Script.run("values", "gate 0 0", "through -1 = throws IllegalArgumentException", "through 8 = throws IllegalArgumentException",
                "backThrough -1 = throws IllegalArgumentException", "backThrough 8 = throws IllegalArgumentException",
                "through 2147483647 = throws IllegalArgumentException", "backThrough -2147483648 = throws IllegalArgumentException");
    }

    private static void turning() {
        Script.run("turning round", "turnRound = 0", "gate 0 2", "gate 1 1", "gate 2 3", "through 3 = 2", "turnRound = 3", "gates = 3",
                "through 2 = 3", "backThrough 3 = 2", "dropGate = 2", "dropGate = 9", "dropGate = 19");
        Script.run("turning round four", "gate 0 0", "gate 1 0", "gate 2 0", "gate 0 6", "turnRound = 4", "dropGate = 0", "dropGate = 8",
                "dropGate = 16", "dropGate = 6", "turnRound = 0");
    }

    private static void simplifying() {
        Script.run("none", "simplify = 0", "gate 0 0", "simplify = 0", "gates = 1");
        Script.run("next to one another", "gate 0 6", "gate 0 6", "simplify = 2", "gates = 0", "simplify = 0");
        Script.run("three that are the same", "gate 0 0", "gate 0 0", "gate 0 0", "simplify = 2", "gates = 1", "dropGate = 0");
        Script.run("its line among the controls between", "gate 0 0", "gate 1 1", "gate 0 0", "simplify = 0", "gates = 3");
        Script.run("the line between among its controls", "gate 0 2", "gate 1 0", "gate 0 2", "simplify = 0", "gates = 3",
                "dropGate = 2", "dropGate = 8");
        Script.run("another control of the line between", "gate 0 2", "gate 2 0", "gate 0 2", "simplify = 2", "gates = 1", "dropGate = 16");
        Script.run("the same line between", "gate 0 0", "gate 0 2", "gate 0 0", "simplify = 2", "gates = 1", "dropGate = 2");
        Script.run("controls alike between", "gate 0 4", "gate 1 4", "gate 0 4", "simplify = 2", "gates = 1", "dropGate = 12");
        Script.run("the same line, other controls", "gate 0 2", "gate 0 4", "gate 0 2", "gate 0 4", "simplify = 4", "gates = 0");
        Script.run("not the same line", "gate 0 4", "gate 1 4", "simplify = 0", "gates = 2");
    }

    private static void simplifyingMore() {
        Script.run("one after the other", "gate 1 0", "gate 0 2", "gate 0 2", "gate 1 0", "simplify = 4", "gates = 0");
        Script.run("the first ones go", "gate 0 2", "gate 2 0", "gate 0 2", "gate 0 2", "simplify = 2", "dropGate = 2", "dropGate = 16",
                "gates = 0");
        Script.run("the earlier one first", "gate 0 0", "gate 1 0", "gate 0 0", "gate 1 1", "gate 1 0", "simplify = 4", "gates = 1",
                "dropGate = 9");
        Script.run("the last one is in the way", "gate 0 2", "gate 2 0", "gate 0 4", "gate 1 0", "gate 0 2", "simplify = 0", "gates = 5");
        Script.run("the first pair opens the second one's way", "gate 0 2", "gate 1 0", "gate 2 1", "gate 2 1", "gate 1 0", "gate 0 2",
                "gate 2 4 = throws IllegalArgumentException", "simplify = 6", "gates = 0");
        Script.run("a later pair alone", "gate 0 2", "gate 1 1", "gate 2 3", "gate 2 3", "gate 1 0", "simplify = 2", "gates = 3",
                "dropGate = 8", "dropGate = 9", "dropGate = 2");
        String[] lines = new String[26];
        for (int i = 0; i < 24; i++) {
            lines[i] = "gate 2 " + i % 2;
        }
        lines[24] = "simplify = 24";
        lines[25] = "gates = 0";
        Script.run("all 24", lines);
    }

    private static void making() {
        Script.run("made of none", "made = 0", "madeAt 0 = throws IndexOutOfBoundsException",
                "madeAt -1 = throws IndexOutOfBoundsException");
        Script.run("made of a turned line", "gate 0 0", "made = 1", "madeAt 0 = 0", "madeAt 1 = throws IndexOutOfBoundsException",
                "madeAt -1 = throws IndexOutOfBoundsException", "gates = 1", "gate 0 0", "made = 0",
                "madeAt 0 = throws IndexOutOfBoundsException");
        Script.run("made of two controls", "gate 0 6", "made = 1", "madeAt 0 = 6", "gate 1 5", "gate 1 5", "made = 1", "madeAt 0 = 6");
        Script.run("made of a swap of lines", "gate 1 1", "gate 0 2", "gate 1 1", "made = 3", "madeAt 0 = 2", "madeAt 1 = 9",
                "madeAt 2 = 2", "madeAt 3 = throws IndexOutOfBoundsException");
        Script.run("made of six", "gate 0 6", "gate 1 0", "gate 0 6", "gate 1 0", "gate 2 3", "gate 0 2", "made = 3", "madeAt 0 = 4",
                "madeAt 1 = 19", "madeAt 2 = 2", "gates = 6", "dropGate = 2");
        Script.run("lowest line first", "gate 2 0", "gate 0 0", "gate 1 0", "made = 3", "madeAt 0 = 16", "madeAt 1 = 8", "madeAt 2 = 0");
    }

    private static void makingMore() {
        Script.run("bits that are lacking", "gate 1 5", "gate 1 4", "gate 0 4", "gate 2 3", "gate 1 5", "gate 0 4", "made = 6",
                "madeAt 0 = 13", "madeAt 1 = 12", "madeAt 2 = 4", "madeAt 3 = 19", "madeAt 4 = 13", "madeAt 5 = 4",
                "madeAt 6 = throws IndexOutOfBoundsException", "gates = 6", "through 3 = 4", "through 4 = 3", "through 5 = 5",
                "cycles = 7", "order = 2");
    }

    private static void least() {
        Script.run("least gates", "leastGates = 0", "gate 0 0", "leastGates = 1", "gate 0 0", "leastGates = 0", "gate 1 5", "leastGates = 1",
                "gate 2 0", "leastGates = 2", "gates = 4");
        Script.run("least gates of a swap of lines", "gate 0 4", "gate 2 1", "gate 0 4", "leastGates = 3", "gate 0 4", "gate 0 4",
                "leastGates = 3", "gates = 5");
        Script.run("least gates of two swaps of lines", "gate 0 4", "gate 2 1", "gate 0 4", "gate 0 2", "gate 1 1", "gate 0 2",
                "leastGates = 6", "cycles = 4", "order = 3");
        Script.run("least gates of a two-line gate with more", "gate 0 6", "gate 1 0", "gate 0 6", "gate 1 0", "leastGates = 1");
    }

    private static void cycles() {
        Script.run("cycles", "cycles = 8", "order = 1", "gate 0 0", "cycles = 4", "order = 2", "gate 1 1", "cycles = 2", "order = 4",
                "gate 2 3", "cycles = 1", "order = 8");
        Script.run("cycles of six gates", "gate 0 6", "gate 1 0", "gate 0 6", "gate 1 0", "gate 2 3", "gate 0 2", "cycles = 5", "order = 6");
        Script.run("one swap", "gate 1 5", "cycles = 7", "order = 2");
    }
}
