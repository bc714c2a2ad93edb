import java.util.ArrayList;
import java.util.Arrays;
import java.util.List;

/** The boundary cases of promises 31 to 37, a test for each sentence: gates, what comes of values, simplifying. */
public final class EdgesOfCircuitsTest {
    private static final String BAD = "throws IllegalArgumentException";
    private static final String FULL = "throws IllegalStateException";
    private static final String NONE = "throws NoSuchElementException";

    public static void main(String[] args) {
        gateNumbers();
        gateControls();
        gateFull();
        dropGate();
        gates();
        through();
        backThrough();
        gatesAtWork();
        turnRound();
        simplifyNone();
        simplifyBetween();
        simplifyFirst();
        simplifyAsLong();
        Script.allPromised(31, 37);
        Script.end("EdgesOfCircuitsTest");
    }

    /** Lines that put as many gates, which all differ from the next one, then the others. */
    private static String[] filled(int count, String... others) {
        List<String> lines = new ArrayList<>();
        for (int i = 0; i < count; i++) {
            lines.add("gate " + i % 3 + " 0 = " + (i + 1));
        }
        lines.addAll(Arrays.asList(others));
        return lines.toArray(new String[0]);
    }

    /** Two that are the same round as many that let them go, and of which no two go. */
    private static String[] between(int count, String... others) {
        List<String> lines = new ArrayList<>(Arrays.asList("gate 0 4"));
        for (int i = 0; i < count; i++) {
            lines.add(i % 2 == 0 ? "gate 0 2" : "gate 1 4");
        }
        lines.add("gate 0 4 = " + (count + 2));
        lines.addAll(Arrays.asList(others));
        return lines.toArray(new String[0]);
    }

    private static void gateNumbers() {
        Script.promise(31, "returns how many there are, 1 for the first one", "gate 0 0 = 1", "gate 0 0 = 2");
        Script.promise(31, "the first line is 0", "gate 0 0 = 1", "through 0 = 1");
        Script.promise(31, "the last line is 2", "gate 2 0 = 1", "through 0 = 4");
        Script.promise(31, "line -1 is out of range", "gate -1 0 = " + BAD);
        Script.promise(31, "line 3 is out of range", "gate 3 0 = " + BAD);
        Script.promise(31, "lines far away are out of range", "gate 32 0 = " + BAD, "gate 2147483647 0 = " + BAD,
                "gate -2147483648 0 = " + BAD);
        Script.promise(31, "controls 0 are none, and in range", "gate 1 0 = 1", "through 0 = 2", "through 7 = 5");
        Script.promise(31, "controls 6 are in range for line 0", "gate 0 6 = 1", "dropGate = 6");
        Script.promise(31, "controls -1 are out of range", "gate 0 -1 = " + BAD, "gate 0 -2 = " + BAD);
        Script.promise(31, "controls 8 are out of range", "gate 0 8 = " + BAD, "gate 1 8 = " + BAD, "gate 2 8 = " + BAD);
        Script.promise(31, "controls far away are out of range", "gate 0 16 = " + BAD, "gate 0 2147483646 = " + BAD,
                "gate 0 -2147483648 = " + BAD);
    }

    private static void gateControls() {
        Script.promise(31, "controls 7 have every line among them", "gate 0 7 = " + BAD, "gate 1 7 = " + BAD, "gate 2 7 = " + BAD);
        Script.promise(31, "line 0 is not among its controls", "gate 0 1 = " + BAD, "gate 0 3 = " + BAD, "gate 0 5 = " + BAD,
                "gate 0 2 = 1", "gate 0 4 = 2", "gate 0 6 = 3");
        Script.promise(31, "line 1 is not among its controls", "gate 1 2 = " + BAD, "gate 1 3 = " + BAD, "gate 1 6 = " + BAD,
                "gate 1 1 = 1", "gate 1 4 = 2", "gate 1 5 = 3");
        Script.promise(31, "line 2 is not among its controls", "gate 2 4 = " + BAD, "gate 2 5 = " + BAD, "gate 2 6 = " + BAD,
                "gate 2 1 = 1", "gate 2 2 = 2", "gate 2 3 = 3");
        Script.promise(31, "a gate that was refused is not there", "gate 0 2 = 1", "gate 0 1 = " + BAD, "gate 3 0 = " + BAD, "gates = 1",
                "dropGate = 2", "gates = 0");
    }

    private static void gateFull() {
        Script.promise(31, "at most 24 gates, so the 24th is put", filled(24, "gates = 24"));
        Script.promise(31, "IllegalStateException if there are 24", filled(24, "gate 0 0 = " + FULL, "gates = 24", "dropGate = 16"));
        Script.promise(31, "of both exceptions the one of the line, which is listed first", filled(24, "gate 3 0 = " + BAD,
                "gate -1 0 = " + BAD, "gate 0 0 = " + FULL));
        Script.promise(31, "of both exceptions the one of the controls, which is listed first", filled(24, "gate 0 8 = " + BAD,
                "gate 0 -1 = " + BAD, "gate 0 1 = " + BAD, "gate 0 0 = " + FULL));
        Script.promise(31, "a gate taken away of 24 leaves room for one", filled(24, "dropGate = 16", "gate 1 5 = 24", "gate 1 5 = " + FULL,
                "dropGate = 13"));
        Script.promise(31, "gates that were simplified away of 24 leave room", filled(24, "simplify = 24", "gate 1 5 = 1"));
    }

    private static void dropGate() {
        Script.promise(32, "NoSuchElementException if there is none", "dropGate = " + NONE);
        Script.promise(32, "NoSuchElementException if there is none any more", "gate 0 0 = 1", "dropGate = 0", "dropGate = " + NONE);
        Script.promise(32, "the least gate is 0", "gate 0 0 = 1", "dropGate = 0");
        Script.promise(32, "the greatest gate is 19", "gate 2 3 = 1", "dropGate = 19");
        Script.promise(32, "8 times its line, plus its controls", "gate 0 6 = 1", "gate 1 5 = 2", "gate 1 0 = 3", "gate 2 0 = 4",
                "dropGate = 16", "dropGate = 8", "dropGate = 13", "dropGate = 6");
        Script.promise(32, "takes the last one away", "gate 0 0 = 1", "gate 1 0 = 2", "dropGate = 8", "gates = 1", "through 0 = 1");
        Script.promise(32, "takes all 24 away", filled(24, "dropGate = 16", "dropGate = 8", "dropGate = 0", "dropGate = 16", "dropGate = 8",
                "dropGate = 0", "dropGate = 16", "dropGate = 8", "dropGate = 0", "dropGate = 16", "dropGate = 8", "dropGate = 0",
                "dropGate = 16", "dropGate = 8", "dropGate = 0", "dropGate = 16", "dropGate = 8", "dropGate = 0", "dropGate = 16",
                "dropGate = 8", "dropGate = 0", "dropGate = 16", "dropGate = 8", "dropGate = 0", "dropGate = " + NONE));
        Script.promise(32, "there is none when all were simplified away", "gate 0 0 = 1", "gate 0 0 = 2", "simplify = 2",
                "dropGate = " + NONE);
    }

    private static void gates() {
        Script.promise(33, "0 at first", "gates = 0");
        Script.promise(33, "24 at most", filled(24, "gates = 24", "gate 1 1 = " + FULL, "gates = 24"));
        Script.promise(33, "0 again when all were taken away", "gate 0 0 = 1", "dropGate = 0", "gates = 0", "dropGate = " + NONE, "gates = 0");
        Script.promise(33, "refused gates do not count", "gate 0 1 = " + BAD, "gates = 0");
        Script.promise(33, "simplified gates do not count", "gate 0 0 = 1", "gate 0 0 = 2", "gate 1 0 = 3", "simplify = 2", "gates = 1");
        Script.promise(33, "those of the circuit, not those of the one that is made", "gate 0 0 = 1", "gate 0 0 = 2", "made = 0", "gates = 2");
    }

    private static void through() {
        Script.promise(34, "the value 0", "through 0 = 0", "gate 0 0 = 1", "through 0 = 1");
        Script.promise(34, "the value 7", "through 7 = 7", "gate 0 0 = 1", "through 7 = 6");
        Script.promise(34, "-1 is out of range", "through -1 = " + BAD, "through -2147483648 = " + BAD);
        Script.promise(34, "8 is out of range", "through 8 = " + BAD, "through 2147483647 = " + BAD);
        Script.promise(34, "without gates each value comes to itself", "through 0 = 0", "through 1 = 1", "through 2 = 2", "through 3 = 3",
                "through 4 = 4", "through 5 = 5", "through 6 = 6", "through 7 = 7");
        Script.promise(34, "by all of 24 gates, the first one and the last one, too", "gate 0 0", "gate 1 1", "gate 0 0", "gate 0 0", "gate 0 0",
                "gate 0 0", "gate 0 0", "gate 0 0", "gate 0 0", "gate 0 0", "gate 0 0", "gate 0 0", "gate 0 0", "gate 0 0", "gate 0 0",
                "gate 0 0", "gate 0 0", "gate 0 0", "gate 0 0", "gate 0 0", "gate 0 0", "gate 0 0", "gate 0 0", "gate 2 2 = 24",
                "through 0 = 6", "through 1 = 1", "backThrough 6 = 0", "backThrough 1 = 1", "dropGate = 18", "through 0 = 2");
    }

    private static void backThrough() {
        Script.promise(35, "the output 0", "backThrough 0 = 0", "gate 0 0 = 1", "backThrough 0 = 1");
        Script.promise(35, "the output 7", "backThrough 7 = 7", "gate 0 0 = 1", "backThrough 7 = 6");
        Script.promise(35, "-1 is out of range", "backThrough -1 = " + BAD, "backThrough -2147483648 = " + BAD);
        Script.promise(35, "8 is out of range", "backThrough 8 = " + BAD, "backThrough 2147483647 = " + BAD);
        Script.promise(35, "without gates each output comes of itself", "backThrough 0 = 0", "backThrough 1 = 1", "backThrough 2 = 2",
                "backThrough 3 = 3", "backThrough 4 = 4", "backThrough 5 = 5", "backThrough 6 = 6", "backThrough 7 = 7");
        Script.promise(35, "of which value it comes, not what comes of it", "gate 0 0", "gate 1 1", "through 0 = 3", "backThrough 3 = 0",
                "through 3 = 2", "backThrough 0 = 1", "through 1 = 0");
    }

    private static void gatesAtWork() {
        Script.promise(34, "a gate without controls turns its line over always", "gate 1 0", "through 0 = 2", "through 2 = 0", "through 5 = 7",
                "through 7 = 5");
        Script.promise(34, "a gate turns its line over if its control is 1", "gate 1 4", "through 4 = 6", "through 6 = 4", "through 7 = 5",
                "through 5 = 7");
        Script.promise(34, "a gate leaves its line if its control is 0", "gate 1 4", "through 0 = 0", "through 1 = 1", "through 2 = 2",
                "through 3 = 3");
        Script.promise(34, "a gate turns its line over if all lines of its controls are 1", "gate 1 5", "through 5 = 7", "through 7 = 5");
        Script.promise(34, "a gate leaves its line if just one of them is 1", "gate 1 5", "through 1 = 1", "through 3 = 3", "through 4 = 4",
                "through 6 = 6");
        Script.promise(34, "the bits of the lines 0 to 2 are 1, 2 and 4", "gate 0 0", "through 0 = 1", "dropGate", "gate 1 0", "through 0 = 2",
                "dropGate", "gate 2 0", "through 0 = 4");
        Script.promise(35, "back, a gate turns its line over if all lines of its controls are 1", "gate 2 3", "backThrough 3 = 7",
                "backThrough 7 = 3", "backThrough 1 = 1", "backThrough 2 = 2", "backThrough 5 = 5", "backThrough 6 = 6");
    }

    private static void turnRound() {
        Script.promise(36, "returns 0 if there is none", "turnRound = 0", "gates = 0", "through 5 = 5");
        Script.promise(36, "one gate stays", "gate 1 5 = 1", "turnRound = 1", "dropGate = 13", "gates = 0");
        Script.promise(36, "two gates change places", "gate 1 5 = 1", "gate 0 0 = 2", "turnRound = 2", "dropGate = 13", "dropGate = 0");
        Script.promise(36, "of an odd number the one in the middle stays", "gate 1 5 = 1", "gate 0 0 = 2", "gate 2 3 = 3", "turnRound = 3",
                "dropGate = 13", "dropGate = 0", "dropGate = 19");
        Script.promise(36, "of an even number both in the middle change places", "gate 1 5 = 1", "gate 0 0 = 2", "gate 2 3 = 3",
                "gate 1 1 = 4", "turnRound = 4", "dropGate = 13", "dropGate = 0", "dropGate = 19", "dropGate = 9");
        Script.promise(36, "all of 24 gates", filled(24, "turnRound = 24", "dropGate = 0", "dropGate = 8", "dropGate = 16", "dropGate = 0",
                "dropGate = 8", "dropGate = 16", "gates = 18", "turnRound = 18", "dropGate = 16"));
        Script.promise(36, "outputs and values change places", "gate 0 0", "gate 1 1", "through 0 = 3", "turnRound = 2", "through 3 = 0",
                "backThrough 0 = 3");
        Script.promise(36, "twice, it is as it was", "gate 0 0", "gate 1 1", "gate 2 3", "turnRound = 3", "turnRound = 3", "dropGate = 19",
                "dropGate = 9", "dropGate = 0");
    }

    private static void simplifyNone() {
        Script.promise(37, "returns 0 if there is no gate", "simplify = 0", "gates = 0");
        Script.promise(37, "returns 0 if there is one", "gate 0 0", "simplify = 0", "gates = 1", "dropGate = 0");
        Script.promise(37, "returns 0 if no two are the same", filled(3, "gate 0 2", "gate 0 4", "gate 0 6", "gate 1 1", "gate 1 4", "gate 1 5",
                "gate 2 1", "gate 2 2", "gate 2 3", "simplify = 0", "gates = 12", "dropGate = 19", "dropGate = 18"));
        Script.promise(37, "two of the same line with other controls are not the same", "gate 0 2", "gate 0 6", "simplify = 0", "gates = 2");
        Script.promise(37, "two of the same controls on other lines are not the same", "gate 0 4", "gate 1 4", "simplify = 0", "gates = 2");
        Script.promise(37, "two that are the same, with none between, go", "gate 2 3", "gate 2 3", "simplify = 2", "gates = 0");
        Script.promise(37, "returns 24 if all of 24 go", filled(24, "simplify = 24", "gates = 0", "simplify = 0"));
        Script.promise(37, "two go, the first one and the last one of 24", between(22, "simplify = 2", "gates = 22", "dropGate = 12",
                "dropGate = 2", "turnRound = 20", "dropGate = 2", "dropGate = 12"));
    }

    private static void simplifyBetween() {
        Script.promise(37, "not if one between has the line of the earlier one among its controls", "gate 0 0", "gate 1 1", "gate 0 0",
                "simplify = 0", "gates = 3");
        Script.promise(37, "not if one between has it beside another one among its controls", "gate 0 0", "gate 1 5", "gate 0 0",
                "simplify = 0", "gates = 3");
        Script.promise(37, "not if one between has its line among the controls of the earlier one", "gate 0 2", "gate 1 0", "gate 0 2",
                "simplify = 0", "gates = 3");
        Script.promise(37, "not if one between has its line beside another one among those controls", "gate 0 6", "gate 2 0", "gate 0 6",
                "simplify = 0", "gates = 3");
        Script.promise(37, "not if the first one of several between is so", "gate 0 2", "gate 1 0", "gate 0 4", "gate 2 0", "gate 0 2",
                "simplify = 0", "gates = 5");
        Script.promise(37, "not if the last one of several between is so", "gate 0 2", "gate 2 0", "gate 0 4", "gate 1 0", "gate 0 2",
                "simplify = 0", "gates = 5");
        Script.promise(37, "if those between have neither", "gate 0 2", "gate 2 2", "gate 0 4", "gate 2 0", "gate 0 2", "simplify = 2",
                "gates = 3", "dropGate = 16", "dropGate = 4", "dropGate = 18");
        Script.promise(37, "if one between has the same line, with other controls", "gate 0 2", "gate 0 6", "gate 0 2", "simplify = 2",
                "gates = 1", "dropGate = 6");
        Script.promise(37, "if one between has the same controls, on another line", "gate 0 4", "gate 1 4", "gate 0 4", "simplify = 2",
                "gates = 1", "dropGate = 12");
        Script.promise(37, "if one between has another line among its controls", "gate 0 0", "gate 1 4", "gate 0 0", "simplify = 2",
                "gates = 1", "dropGate = 12");
        Script.promise(37, "gates ahead of the earlier one and behind the later one do not matter", "gate 1 1", "gate 0 0", "gate 0 0",
                "gate 1 0", "simplify = 2", "gates = 2", "dropGate = 8", "dropGate = 9");
    }

    private static void simplifyFirst() {
        Script.promise(37, "the later one is the next one: of three the last one stays", "gate 0 2", "gate 2 0", "gate 0 2", "gate 2 2",
                "gate 0 2", "simplify = 2", "gates = 3", "dropGate = 2", "dropGate = 18", "dropGate = 16");
        Script.promise(37, "the earlier one is the first for which there is a later one", "gate 0 2", "gate 1 0", "gate 0 2", "gate 2 2",
                "gate 0 2", "simplify = 2", "gates = 3", "dropGate = 18", "dropGate = 8", "dropGate = 2");
        Script.promise(37, "of two crossed pairs the one goes that begins first, and the other one with it", "gate 0 0", "gate 1 0",
                "gate 0 0", "gate 1 0", "simplify = 4", "gates = 0");
        Script.promise(37, "the first pair goes, though a later one has none between", "gate 0 4", "gate 1 4", "gate 0 4", "gate 0 4",
                "simplify = 2", "gates = 2", "dropGate = 4", "dropGate = 12");
        Script.promise(37, "those that stay keep their order", "gate 2 3", "gate 0 0", "gate 0 0", "gate 1 5", "gate 0 2", "gate 0 2", "gate 0 4",
                "simplify = 4", "gates = 3", "dropGate = 4", "dropGate = 13", "dropGate = 19");
    }

    private static void simplifyAsLong() {
        Script.promise(37, "as long as there are two: a pair within a pair", "gate 0 2", "gate 1 0", "gate 1 0", "gate 0 2", "simplify = 4",
                "gates = 0");
        Script.promise(37, "as long as there are two: the first gate has a later one when another pair is gone", "gate 0 2", "gate 1 4",
                "gate 2 0", "gate 2 0", "gate 1 4", "gate 0 2", "simplify = 6", "gates = 0");
        Script.promise(37, "a second call finds none", "gate 0 2", "gate 1 0", "gate 1 0", "gate 0 2", "gate 1 1", "gate 0 2", "simplify = 4",
                "simplify = 0", "gates = 2");
        Script.promise(37, "of an even number of the same all go", "gate 1 5", "gate 1 5", "gate 1 5", "gate 1 5", "simplify = 4", "gates = 0");
        Script.promise(37, "of an odd number of the same one stays", "gate 1 5", "gate 1 5", "gate 1 5", "gate 1 5", "gate 1 5",
                "simplify = 4", "gates = 1", "dropGate = 13");
        Script.promise(37, "the outputs stay", "gate 0 2", "gate 2 0", "gate 0 2", "gate 1 1", "through 3 = 5", "simplify = 2", "through 3 = 5",
                "backThrough 5 = 3");
    }
}
