import java.util.Arrays;
import java.util.LinkedHashMap;
import java.util.List;
import java.util.Map;

/**
 * Promises 2 to 51: each call changes what the document says that it changes, and nothing else. The state of an object
 * is seen in parts; a call is made on one of two objects alike, and all parts but its own must stay alike.
 */
public final class NothingElseTest {
    private static final String TEXT = "text";
    private static final String PROCEDURES = "procedures";
    private static final String VARIABLES = "variables";
    private static final String STACK = "stack";
    private static final String RUN = "run";
    private static final String WAY_ON = "way on";
    private static final String BITS = "bits";
    private static final String STEPS = "steps";
    private static final String GATES = "gates";
    private static final String IMAGES = "images";

    /** The number of a promise, the parts that its call may change, and calls. */
    private static final String[][] CALLS = {
        {"2", TEXT, "type a", "type ;", "type #65535"},
        {"3", TEXT, "wipe"},
        {"4", "", "fault"},
        {"5", "", "faultKind"},
        {"6", TEXT + "," + PROCEDURES + "," + WAY_ON, "define"},
        {"7", PROCEDURES + "," + WAY_ON, "invert 0", "invert 2", "invert 5", "invert 9", "invert -1"},
        {"8", "", "length 0", "length 9"},
        {"9", "", "signAt 0 0", "signAt 0 60", "signAt 9 0"},
        {"10", "", "size 0", "size 9"},
        {"11", "", "instruction 0 0", "instruction 0 60", "instruction 9 0"},
        {"12", VARIABLES + "," + WAY_ON, "set a 5", "set h -1", "set i 5"},
        {"13", "", "get a", "get h", "get i"},
        {"14", "", "stacked"},
        {"15", "", "stackAt 0", "stackAt 1", "stackAt 19", "stackAt 20", "stackAt -1"},
        {"16", RUN + "," + WAY_ON, "start 0 true", "start 1 false", "start 9 true"},
        {"17", RUN + "," + WAY_ON + "," + VARIABLES + "," + STACK + "," + STEPS, "go 1 false", "go 500 true", "go 0 true"},
        {"18", "", "state"},
        {"19", "", "place"},
        {"20", "", "inside"},
        {"21", "", "depth"},
        {"22", "", "isAhead"},
        {"23", "", "why 0", "why 1", "why 2", "why -1"},
        {"24", "", "whyNumber 0", "whyNumber 1", "whyNumber 2", "whyNumber -1"},
        {"25", VARIABLES + "," + STACK + "," + STEPS + "," + WAY_ON, "run 0 true", "run 0 false", "run 1 true", "run 2 false", "run 9 true"},
        {"26", VARIABLES + "," + BITS + "," + WAY_ON, "erase a", "erase h", "erase i"},
        {"27", "", "steps"},
        {"28", "", "image 0 a 3", "image 1 a 0", "image 2 h -1", "image 9 a 0", "image 0 i 0"},
        {"29", "", "works 0 a", "works 1 b", "works 2 h", "works 9 a", "works 0 i"},
        {"30", "", "alike 0 a", "alike 1 b", "alike 2 h", "alike 9 a", "alike 0 i"},
        {"31", GATES, "gate 0 6", "gate 2 0", "gate 3 0", "gate 0 1"},
        {"32", GATES, "dropGate"},
        {"33", "", "gates"},
        {"34", "", "through 0", "through 7", "through 8"},
        {"35", "", "backThrough 0", "backThrough 7", "backThrough 8"},
        {"36", GATES, "turnRound"},
        {"37", GATES, "simplify"},
        {"38", "", "made"},
        {"39", "", "madeAt 0", "madeAt 1", "madeAt 20", "madeAt -1"},
        {"40", "", "leastGates"},
        {"41", "", "cycles"},
        {"42", "", "order"},
        {"43", IMAGES, "setImage 0 5", "setImage 7 0", "setImage 8 0"},
        {"44", "", "garbage"},
        {"45", "", "forgotten"},
        {"46", "", "pebbles 1 1", "pebbles 4 3", "pebbles 10 1", "pebbles 11 1"},
        {"47", "", "fewestPebbles 1", "fewestPebbles 10", "fewestPebbles 0"},
        {"48", "", "procedures"},
        {"49", "", "checksum"},
        {"50", "", "meanSize"},
        {"51", "", "isSound"},
    };

    private static final String[] NEW = {};

    /** A run that can go on, within an uncall within a call; a text without a fault; gates of which two can be simplified. */
    private static final String[] GOING_ON = {
        "say a+1;!b;c^9", "say d+1;$0;e+1", "say f+1;@1;g-1", "set b 6", "run 0 true", "set b 7", "run 0 true", "set c 5", "erase c",
        "gate 0 6", "gate 1 1", "gate 0 6", "gate 2 1", "gate 2 1", "gate 1 4", "setImage 0 3", "setImage 7 6", "setImage 5 3",
        "start 2 true", "go 5 false", "set a 11", "set b 12", "set c 13", "set d 14", "set e 15", "set f 16", "set g 17", "set h 18",
        "text a+7;b"};

    /** A run that is broken within a call, by a test, going back; a text with a fault. */
    private static final String[] BROKEN = {
        "say !a;[b=1:c+1|d+1:b=1]", "say e+1;$0;e+2", "say ?a;!a", "set a 4", "set b 1", "run 0 true", "set a 3", "erase a", "gate 2 0",
        "gate 2 0", "gate 2 3", "setImage 7 7", "setImage 1 2", "start 1 true", "go 3 false", "set b 2", "go 500 false", "set a -1", "set c -3", "set d -4", "set e -5", "set f -6", "set g -7", "set h -8", "text a+a;!"};

    /** All that has a limit is at it; the run is at its end, by its way back. */
    private static final String[] FULL = {
        "say !a;!b;!c;!d;!e", "say a+1", "say ?a", "say {a=0:a+1|:a=2}", "say @1", "say h~g", "set a 1", "set b -2", "set c 3", "set d -4",
        "set e 5", "run 0 true", "set a 6", "run 0 true", "set b 7", "run 0 true", "set e 8", "run 0 true", "start 1 true", "go 1 false",
        "go 9 true", "gate 0 0", "gate 1 1", "gate 0 0", "gate 2 2", "gate 0 0", "gate 1 5", "gate 0 0", "gate 2 3", "gate 0 0",
        "gate 1 1", "gate 0 0", "gate 2 2", "gate 0 0", "gate 1 5", "gate 0 0", "gate 2 3", "gate 0 0", "gate 1 1", "gate 0 0",
        "gate 2 2", "gate 0 0", "gate 1 5", "gate 0 0", "gate 2 3", "setImage 0 7", "setImage 1 6", "setImage 2 5", "setImage 3 4", "set a 1", "set b 2", "set c 3", "set d 4", "set e 5", "set f 6", "set g 7", "set h 8",
        "text !a;!a;!a;!a;!a;!a;!a;!a;!a;!a;!a;!a;!a;!a;!a;!a;!a;!a;a+11+b"};

    public static void main(String[] args) {
        states();
        for (String[] call : CALLS) {
            for (int i = 2; i < call.length; i++) {
                changesJustItsOwn("a new object", NEW, call, i);
                changesJustItsOwn("a run that can go on", GOING_ON, call, i);
                changesJustItsOwn("a broken run", BROKEN, call, i);
                changesJustItsOwn("a full object", FULL, call, i);
            }
        }
        Script.same("promises told", CALLS.length, 50);
        Script.end("NothingElseTest");
    }

    /** The states are what they are told to be. */
    private static void states() {
        Map<String, String> goingOn = parts(Script.prepared(GOING_ON));
        Script.same("a run that can go on", goingOn.get(RUN), "g 2 0 2 false none none none none ");
        Script.same("variables of it", goingOn.get(VARIABLES), "11 12 13 14 15 16 17 18 ");
        Script.same("the stack of it", goingOn.get(STACK), "2: 7 6 ");
        Script.same("procedures of it", goingOn.get(PROCEDURES), "a+1;!b;c^9 3 d+1;$0;e+1 3 f+1;@1;g-1 3 ");
        Script.same("gates of it", goingOn.get(GATES), "12 17 17 6 9 6 ");
        Script.same("images of it", goingOn.get(IMAGES), "3 0.625 3 0 0 0 0 3 0 6 ");
        Map<String, String> broken = parts(Script.prepared(BROKEN));
        Script.same("a broken run", broken.get(RUN), "b 2 0 1 false t 1 [ 1 ");
        Script.same("variables of it", broken.get(VARIABLES), "-1 2 -3 -4 -5 -6 -7 -8 ");
        Script.same("the text of it", broken.get(TEXT), "0 r 5 ");
        Map<String, String> full = parts(Script.prepared(FULL));
        Script.same("a run at its end", full.get(RUN), "e 0 1 0 false none none none none ");
        Script.same("variables of a full object", full.get(VARIABLES), "1 2 3 4 5 6 7 8 ");
        Script.same("a full text", full.get(TEXT), "none none 60 ");
        Script.same("a full circuit", full.get(GATES).split(" ").length, 24);
        Script.same("a full stack", full.get(STACK), "20: 8 0 0 0 0 0 0 0 7 0 0 0 0 0 6 5 -4 3 -2 1 ");
    }

    private static void changesJustItsOwn(String state, String[] lines, String[] call, int index) {
        Map<String, String> without = parts(Script.prepared(lines));
        Uncomputery object = Script.prepared(lines);
        Script.answer(object, call[index]);
        Map<String, String> with = parts(object);
        List<String> own = Arrays.asList(call[1].split(","));
        for (String part : without.keySet()) {
            if (!own.contains(part)) {
                Script.same("promise " + call[0] + ": " + state + ", then " + call[index] + ": " + part, with.get(part), without.get(part));
            }
        }
    }

    /** All parts of an object, which is used up by it; the parts that are seen by changing them come last. */
    private static Map<String, String> parts(Uncomputery object) {
        Map<String, String> parts = new LinkedHashMap<>();
        parts.put(VARIABLES, answers(object, "get a", "get b", "get c", "get d", "get e", "get f", "get g", "get h"));
        StringBuilder stack = new StringBuilder(object.stacked() + ": ");
        for (int i = 0; i < object.stacked(); i++) {
            stack.append(object.stackAt(i)).append(' ');
        }
        parts.put(STACK, stack.toString());
        parts.put(RUN, answers(object, "state", "place", "inside", "depth", "isAhead", "why 0", "whyNumber 0", "why 1", "whyNumber 1"));
        parts.put(STEPS, answers(object, "steps"));
        StringBuilder procedures = new StringBuilder();
        for (int i = 0; i < object.procedures(); i++) {
            procedures.append(Script.textOf(object, i)).append(' ').append(object.size(i)).append(' ');
        }
        parts.put(PROCEDURES, procedures.toString());
        parts.put(TEXT, answers(object, "fault", "faultKind", "wipe"));
        StringBuilder gates = new StringBuilder();
        for (int i = object.gates(); i > 0; i--) {
            gates.append(object.dropGate()).append(' ');
        }
        parts.put(GATES, gates.toString());
        parts.put(IMAGES, answers(object, "garbage", "forgotten", "setImage 0 0", "setImage 1 0", "setImage 2 0", "setImage 3 0",
                "setImage 4 0", "setImage 5 0", "setImage 6 0", "setImage 7 0"));
        parts.put(WAY_ON, wayOn(object));
        object.set('a', 0);
        parts.put(BITS, answers(object, "erase a"));
        return parts;
    }

    /** The way on tells what each call that is open keeps. */
    private static String wayOn(Uncomputery object) {
        StringBuilder way = new StringBuilder();
        for (int i = 0; i < 4; i++) {
            way.append(answers(object, "go 1 false", "state", "place", "inside", "depth", "isAhead"));
        }
        way.append(answers(object, "go 500 false", "state", "place", "inside", "depth", "isAhead", "get a", "get b", "get e", "get g"));
        return way.toString();
    }

    private static String answers(Uncomputery object, String... calls) {
        StringBuilder seen = new StringBuilder();
        for (String call : calls) {
            String answer = Script.answer(object, call);
            seen.append(answer.startsWith("throws ") ? "none" : answer).append(' ');
        }
        return seen.toString();
    }
}
