import java.util.ArrayList;
import java.util.Arrays;
import java.util.List;

/** The boundary cases of promises 38 to 42, a test for each sentence: made circuits, least gates, cycles. */
public final class EdgesOfMakingTest {
    private static final String BEHIND = "throws IndexOutOfBoundsException";
    /** What it does: 7 1 4 3 0 2 5 6; no circuit has more gates by the rule, 17. */
    private static final String[] LONGEST = {"gate 1 5", "gate 0 6", "gate 2 0", "gate 2 1", "gate 1 4", "gate 0 6"};
    private static final int[] LONGEST_MADE = {6, 13, 6, 12, 4, 19, 13, 4, 18, 2, 13, 17, 9, 6, 16, 8, 0};
    /** What it does: 2 0 3 6 7 1 4 5; it can't be done by fewer gates, and none needs more. */
    private static final String[] DEAREST = {"gate 0 0", "gate 0 2", "gate 1 4", "gate 0 6", "gate 2 3", "gate 1 1", "gate 1 5", "gate 0 2"};

    public static void main(String[] args) {
        made();
        madeLongest();
        madeAt();
        rule();
        ruleOrder();
        leastGates();
        leastOfAll();
        cycles();
        order();
        orderOfSeveral();
        Script.allPromised(38, 42);
        Script.end("EdgesOfMakingTest");
    }

    private static String[] join(String[] first, String... others) {
        List<String> lines = new ArrayList<>(Arrays.asList(first));
        lines.addAll(Arrays.asList(others));
        return lines.toArray(new String[0]);
    }

    /** As many gates as can be, of which only the first few do something. */
    private static String[] filled(String... gates) {
        List<String> lines = new ArrayList<>(Arrays.asList(gates));
        while (lines.size() < 24) {
            lines.add("gate 0 0");
        }
        return lines.toArray(new String[0]);
    }

    private static void made() {
        Script.promise(38, "0 without gates", "made = 0");
        Script.promise(38, "0 if all outputs are their values", "gate 1 5", "gate 1 5", "made = 0", "gates = 2");
        Script.promise(38, "1 for each gate alone with no more bits above it", "gate 0 0", "made = 1", "dropGate", "gate 2 3", "made = 1",
                "dropGate", "gate 1 5", "made = 1", "dropGate", "gate 0 6", "made = 1");
        Script.promise(38, "fewer than the circuit has", "gate 0 6", "gate 1 0", "gate 0 6", "gate 1 0", "made = 1", "gates = 4");
        Script.promise(38, "more than the circuit has", "gate 1 1", "gate 0 6", "made = 4", "gates = 2");
        Script.promise(38, "of 24 gates", join(filled("gate 1 5", "gate 1 5"), "gates = 24", "made = 0", "dropGate", "made = 1", "madeAt 0 = 0"));
        Script.promise(38, "the circuit stays as it is", "gate 1 1", "gate 0 6", "made = 4", "gates = 2", "dropGate = 6", "dropGate = 9");
        Script.promise(38, "as the circuit is now", "gate 0 0", "made = 1", "gate 1 0", "made = 2", "dropGate", "made = 1", "dropGate",
                "made = 0");
    }

    private static void madeLongest() {
        String[] lines = new String[LONGEST_MADE.length + 3];
        lines[0] = "made = 17";
        for (int i = 0; i < LONGEST_MADE.length; i++) {
            lines[i + 1] = "madeAt " + i + " = " + LONGEST_MADE[i];
        }
        lines[LONGEST_MADE.length + 1] = "madeAt 17 = " + BEHIND;
        lines[LONGEST_MADE.length + 2] = "gates = 6";
        Script.promise(38, "17 at most", join(LONGEST, lines));
        Uncomputery object = new Uncomputery();
        for (int gate : LONGEST_MADE) {
            object.gate(gate / 8, gate % 8);
        }
        int[] due = {7, 1, 4, 3, 0, 2, 5, 6};
        for (int value = 0; value < 8; value++) {
            Script.same("promise 38: what is made does the same, value " + value, object.through(value), due[value]);
        }
    }

    private static void madeAt() {
        Script.promise(39, "of none there is no first gate", "madeAt 0 = " + BEHIND);
        Script.promise(39, "below 0 there is none", "gate 0 0", "madeAt -1 = " + BEHIND, "madeAt -2147483648 = " + BEHIND);
        Script.promise(39, "behind the last one there is none", "gate 0 0", "madeAt 0 = 0", "madeAt 1 = " + BEHIND,
                "madeAt 2147483647 = " + BEHIND, "madeAt 24 = " + BEHIND);
        Script.promise(39, "the bounds are those of what is made, not of the circuit: fewer", "gate 0 0", "gate 0 0", "gate 2 0", "gates = 3",
                "madeAt 0 = 16", "madeAt 1 = " + BEHIND, "madeAt 2 = " + BEHIND);
        Script.promise(39, "the bounds are those of what is made, not of the circuit: more", "gate 1 1", "gate 0 6", "gates = 2",
                "madeAt 3 = 9", "madeAt 4 = " + BEHIND);
        Script.promise(39, "as the circuit is now, though made was not called since", "gate 0 0", "madeAt 0 = 0", "gate 0 0",
                "madeAt 0 = " + BEHIND, "gate 1 0", "madeAt 0 = 8");
        Script.promise(39, "the greatest is 19", "gate 2 3", "madeAt 0 = 19");
        Script.promise(39, "the least is 0", "gate 0 0", "madeAt 0 = 0");
        Script.promise(39, "as the circuit is when it was turned round", "gate 1 1", "gate 0 6", "madeAt 3 = 9", "turnRound = 2", "made = 2",
                "madeAt 0 = 6", "madeAt 1 = 9");
    }

    private static void rule() {
        Script.promise(39, "a bit that the output has too much: the line with the bits of the value as controls", "gate 1 5", "gate 2 3",
                "through 3 = 7", "through 5 = 3", "made = 2", "madeAt 1 = 19", "madeAt 0 = 13");
        Script.promise(39, "value 0 with too much has gates without controls", "gate 2 0", "gate 0 0", "gate 1 0", "made = 3", "madeAt 0 = 16",
                "madeAt 1 = 8", "madeAt 2 = 0");
        Script.promise(39, "a bit that the output lacks: the line with all bits of the output as controls", "gate 1 1", "gate 0 2", "gate 1 1",
                "made = 3", "madeAt 2 = 2", "madeAt 1 = 9", "madeAt 0 = 2");
        Script.promise(39, "with all bits of the output as it is then", "gate 1 5", "gate 1 4", "gate 0 4", "gate 2 3", "gate 1 5", "gate 0 4",
                "through 3 = 4", "made = 6", "madeAt 5 = 4", "madeAt 4 = 13", "madeAt 3 = 19");
        Script.promise(39, "outputs go on through these gates: a later value has other ones for it", "gate 1 5", "gate 1 4", "gate 0 4",
                "gate 2 3", "gate 1 5", "gate 0 4", "through 4 = 3", "made = 6", "madeAt 2 = 4", "madeAt 1 = 12", "madeAt 0 = 13",
                "madeAt 6 = " + BEHIND);
    }

    private static void ruleOrder() {
        Script.promise(39, "for each value, from 0 on", "gate 0 6", "gate 2 0", "through 0 = 4", "through 6 = 3", "made = 2", "madeAt 1 = 16",
                "madeAt 0 = 6");
        Script.promise(39, "for each value: 6 is the last one that can need a gate", "gate 0 6", "gate 1 5", "through 5 = 7",
                "through 6 = 5", "through 7 = 6", "made = 2", "madeAt 1 = 13", "madeAt 0 = 6");
        Script.promise(39, "bits that it lacks ahead of those that it has too much", "gate 1 1", "gate 0 2", "gate 1 1", "through 1 = 2",
                "made = 3", "madeAt 2 = 2", "madeAt 1 = 9");
        Script.promise(39, "lowest line first, of the bits that it lacks", "gate 1 5", "gate 1 4", "gate 0 4", "gate 2 3", "gate 1 5",
                "gate 0 4", "through 3 = 4", "made = 6", "madeAt 5 = 4", "madeAt 4 = 13");
        Script.promise(39, "lowest line first, of the bits that it has too much", "gate 2 0", "gate 1 0", "gate 0 0", "through 0 = 7",
                "made = 3", "madeAt 2 = 0", "madeAt 1 = 8", "madeAt 0 = 16");
        Script.promise(39, "the last one first, so that the gates are in the order in which values go through them", "gate 1 5", "gate 2 3",
                "made = 2", "madeAt 0 = 13", "madeAt 1 = 19");
    }

    private static void leastGates() {
        Script.promise(40, "0 without gates", "leastGates = 0");
        Script.promise(40, "0 if all outputs are their values", "gate 2 3", "gate 2 3", "leastGates = 0", "gates = 2");
        Script.promise(40, "1 for each gate alone", "gate 0 0", "leastGates = 1", "dropGate", "gate 1 4", "leastGates = 1", "dropGate",
                "gate 2 3", "leastGates = 1");
        Script.promise(40, "as many as the circuit has, if it has the least", "gate 1 1", "gate 0 6", "leastGates = 2");
        Script.promise(40, "of 24 gates", join(filled("gate 2 3", "gate 1 1"), "gates = 24", "leastGates = 2", "gates = 24"));
        Script.promise(40, "fewer than the rule makes", "gate 1 1", "gate 0 6", "made = 4", "leastGates = 2");
        Script.promise(40, "fewer than simplifying leaves", "gate 0 6", "gate 1 0", "gate 0 6", "gate 1 0", "simplify = 0", "leastGates = 1",
                "gates = 4");
        Script.promise(40, "the circuit stays as it is", "gate 0 0", "gate 0 0", "leastGates = 0", "gates = 2", "dropGate = 0");
        Script.promise(40, "as the circuit is now", "leastGates = 0", "gate 0 0", "leastGates = 1", "gate 1 0", "leastGates = 2", "dropGate",
                "leastGates = 1", "dropGate", "leastGates = 0");
    }

    private static void leastOfAll() {
        Script.promise(40, "3 for a swap of two lines", "gate 1 1", "gate 0 2", "gate 1 1", "leastGates = 3");
        Script.promise(40, "4", "gate 1 5", "gate 2 2", "gate 0 4", "gate 1 1", "leastGates = 4");
        Script.promise(40, "5", "gate 1 5", "gate 2 2", "gate 1 0", "gate 1 5", "gate 0 4", "leastGates = 5");
        Script.promise(40, "6", "gate 0 2", "gate 2 1", "gate 1 4", "gate 0 6", "gate 2 2", "gate 2 3", "leastGates = 6");
        Script.promise(40, "7", "gate 0 2", "gate 1 4", "gate 0 6", "gate 2 1", "gate 1 5", "gate 0 6", "gate 2 2", "leastGates = 7");
        Script.promise(40, "8 at most", join(DEAREST, "leastGates = 8", "turnRound = 8", "leastGates = 8", "gate 0 0", "leastGates = 7"));
    }

    private static void cycles() {
        Script.promise(41, "8 without gates, as each value is one of its own", "cycles = 8");
        Script.promise(41, "1 if all are in one", "gate 1 5", "gate 0 0", "gate 2 1", "cycles = 1");
        Script.promise(41, "7 if just two change places", "gate 1 5", "cycles = 7");
        Script.promise(41, "7 if just the values 6 and 7 change places", "gate 0 6", "cycles = 7");
        Script.promise(41, "4 if all change places by twos", "gate 0 0", "cycles = 4");
        Script.promise(41, "2, one of them of a value alone", "gate 0 4", "gate 1 1", "gate 2 2", "cycles = 2");
        Script.promise(41, "2 of four each", "gate 0 0", "gate 2 1", "cycles = 2");
        Script.promise(41, "as many back as ahead", "gate 1 1", "gate 0 4", "cycles = 4", "turnRound = 2", "cycles = 4");
    }

    private static void order() {
        Script.promise(42, "at least 1: without gates", "order = 1");
        Script.promise(42, "at least 1: if all outputs are their values", "gate 0 0", "gate 0 0", "order = 1");
        Script.promise(42, "2 if two change places", "gate 1 5", "order = 2");
        Script.promise(42, "3 if three go round", "gate 1 5", "gate 0 6", "order = 3");
        Script.promise(42, "4 if four go round", "gate 1 5", "gate 0 4", "order = 4");
        Script.promise(42, "5 if five go round", "gate 1 4", "gate 0 6", "gate 2 3", "order = 5");
        Script.promise(42, "7 if seven go round", "gate 0 4", "gate 1 1", "gate 2 2", "order = 7");
        Script.promise(42, "8 if all go round in one cycle", "gate 1 5", "gate 0 0", "gate 2 1", "order = 8");
    }

    private static void orderOfSeveral() {
        Script.promise(42, "until all values come back: cycles of 2 and 3 take 6", "gate 1 1", "gate 0 6", "order = 6", "cycles = 5");
        Script.promise(42, "until all values come back: cycles of 2 and 4 take 4", "gate 1 1", "gate 0 4", "order = 4");
        Script.promise(42, "until all values come back: cycles of 2 and 6 take 6", "gate 1 1", "gate 0 2", "gate 2 0", "order = 6",
                "cycles = 2");
        Script.promise(42, "until all values come back: cycles of 3 and 3 take 3", "gate 0 4", "gate 2 1", "order = 3", "cycles = 4");
        Script.promise(42, "until all values come back: cycles of 2 and 5 take 10", "gate 2 2", "gate 1 1", "gate 0 6", "gate 2 0",
                "order = 10", "cycles = 3");
        Script.promise(42, "until all values come back: cycles of 3 and 4 take 12", "gate 2 3", "gate 0 4", "gate 2 0", "order = 12",
                "cycles = 3");
        Script.promise(42, "until all values come back: cycles of 3 and 5 take 15, the most", "gate 2 3", "gate 0 4", "gate 2 0", "gate 1 5",
                "order = 15", "cycles = 2");
        Script.promise(42, "until all values come back: cycles of 2, 2 and 2 take 2", "gate 0 0", "gate 0 6", "order = 2", "cycles = 5");
    }
}
