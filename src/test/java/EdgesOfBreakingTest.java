import java.util.ArrayList;
import java.util.Arrays;
import java.util.List;

/** The boundary cases of promises 23 and 24, a test for each sentence: why a run broke, and for how long it says so. */
public final class EdgesOfBreakingTest {
    private static final String NO_CAUSE = "throws NoSuchElementException";
    private static final String FULL_STACK = "say !g;!g;!g;!g;!g;!g;!g;!g;!g;!g;!g;!g;!g;!g;!g;!g;!g;!g;!g;!g";

    public static void main(String[] args) {
        notBroken();
        noCauseSoDeep();
        testsAhead();
        testsBack();
        testsAtTheirPlaces();
        variableIsNotZero();
        emptyStack();
        fullStack();
        missingProcedure();
        tooManyCalls();
        changesNothing();
        isGone();
        Script.allPromised(23, 24);
        Script.end("EdgesOfBreakingTest");
    }

    /** The same lines under both promises; in those of whyNumber stands the number instead of the letter. */
    private static void both(String sentence, String... lines) {
        Script.promise(23, sentence, lines);
        String[] others = new String[lines.length];
        for (int i = 0; i < lines.length; i++) {
            boolean isOfThis = lines[i].startsWith("why ") && lines[i].endsWith(NO_CAUSE);
            others[i] = isOfThis ? "whyNumber" + lines[i].substring(3) : lines[i];
        }
        Script.promise(24, sentence, others);
    }

    private static void notBroken() {
        both("not broken: none was begun", "why 0 = " + NO_CAUSE, "say ?a", "why 0 = " + NO_CAUSE);
        both("not broken: it was just begun", "say ?a", "start 0 true = 0", "why 0 = " + NO_CAUSE);
        both("not broken: it can go on", "say a+1;?b", "start 0 true = 0", "go 1 false = 1", "why 0 = " + NO_CAUSE);
        both("not broken: it is ended", "say a+1", "start 0 true = 0", "go 1 false = 1", "state = e", "why 0 = " + NO_CAUSE);
        both("not broken: an empty procedure", "define = 0", "start 0 true = 0", "go 1 false = 0", "why 0 = " + NO_CAUSE);
        both("not broken: a whole run that breaks is none that was begun", "say ?a", "run 0 true = throws UnsupportedOperationException",
                "why 0 = " + NO_CAUSE, "say b+1", "start 1 true = 0", "run 0 true = throws UnsupportedOperationException",
                "why 0 = " + NO_CAUSE);
        both("not broken: nor is a table", "say ?a", "works 0 a = 0", "image 0 a 1 = " + NO_CAUSE, "why 0 = " + NO_CAUSE);
    }

    private static void noCauseSoDeep() {
        both("below depth 0 there is no cause", "say ?a", "start 0 true = 0", "go 1 false = 0", "why -1 = " + NO_CAUSE,
                "why -2147483648 = " + NO_CAUSE, "why 0 = e", "whyNumber 0 = 0");
        both("of one cause there is none at depth 1", "say ?a", "start 0 true = 0", "go 1 false = 0", "why 1 = " + NO_CAUSE,
                "why 2 = " + NO_CAUSE, "why 2147483647 = " + NO_CAUSE);
        both("of two causes there is one at depth 1, and none at depth 2", "say {a=1:|:a=0}", "start 0 true = 0", "go 1 false = 0",
                "why 0 = t", "whyNumber 0 = 0", "why 1 = {", "whyNumber 1 = 1", "why 2 = " + NO_CAUSE, "why 2147483647 = " + NO_CAUSE,
                "why -1 = " + NO_CAUSE);
        both("one cause behind two leaves no second one", "say {a=1:?b|:a=0}", "start 0 true = 0", "go 1 false = 0", "why 1 = {",
                "set a 1", "go 9 false = 1", "why 0 = e", "whyNumber 0 = 1", "why 1 = " + NO_CAUSE);
    }

    /** A run that breaks at a test: 't' with the place of the instruction, below it its sign with 1 or 0. */
    private static void test(String sentence, int place, char sign, int wanted, String... lines) {
        List<String> first = new ArrayList<>(Arrays.asList(lines));
        first.addAll(Arrays.asList("state = b", "why 0 = t", "why 1 = " + sign, "why 2 = " + NO_CAUSE));
        Script.promise(23, sentence, first.toArray(new String[0]));
        List<String> second = new ArrayList<>(Arrays.asList(lines));
        second.addAll(Arrays.asList("state = b", "whyNumber 0 = " + place, "whyNumber 1 = " + wanted, "whyNumber 2 = " + NO_CAUSE));
        Script.promise(24, sentence, second.toArray(new String[0]));
    }

    private static void testsAhead() {
        test("'|' ahead: D must hold", 2, '|', 1, "say [a=0:b+1|c+1:a=1]", "start 0 true = 0", "go 9 false = 2", "place = 2");
        test("']' ahead: D must not hold", 4, ']', 0, "say [a=1:b+1|c+1:a=0]", "start 0 true = 0", "go 9 false = 2", "place = 4");
        test("'{' ahead: C must hold", 0, '{', 1, "say {a=1:b+1|c+1:a=0}", "start 0 true = 0", "go 9 false = 0", "place = 0");
        test("'}' ahead: C must not hold", 4, '}', 0, "say {a=0:b+1|c+1:a=1}", "start 0 true = 0", "go 9 false = 4", "place = 4");
    }

    private static void testsBack() {
        test("'|' undone: C must not hold", 2, '|', 0, "say [a=0:b+1|c+1:a=1]", "start 0 false = 5", "go 9 false = 2", "place = 3");
        test("'[' undone: C must hold", 0, '[', 1, "say [a=1:b+1|c+1:a=0]", "start 0 false = 5", "go 9 false = 2", "place = 1");
        test("'}' undone: D must hold", 4, '}', 1, "say {a=0:b+1|c+1:a=1}", "start 0 false = 5", "go 9 false = 0", "place = 5");
        test("'/' undone: D must not hold", 2, '/', 0, "say {a=1:b+1|c+1:a=0}", "start 0 false = 5", "go 9 false = 4", "place = 3");
    }

    private static void testsAtTheirPlaces() {
        test("the place is that of the instruction, not that of the run, going back", 5, '}', 1, "say e+1;{a=0:b+1|c+1:a=1}",
                "start 0 false = 6", "go 9 false = 0", "place = 6");
        test("the place is that in the procedure in which it broke", 1, '{', 1, "say a+1;b+1;@1", "say c+1;{a=0:|:a=0}", "start 0 true = 0",
                "go 9 false = 4", "inside = 1", "place = 1");
        test("the place of an inner choice", 3, '|', 1, "say [a=0:b+1;[a=0:|:a=1]|:a=0]", "start 0 true = 0", "go 9 false = 3", "place = 3");
        test("within an uncall a test breaks as undone", 0, '[', 1, "say $1", "say [a=1:|:a=0]", "start 0 true = 0", "go 9 false = 2",
                "inside = 1", "place = 1");
        test("within an uncall that is undone a test breaks as done", 1, '|', 1, "say $1", "say [a=0:|:a=1]", "start 0 false = 1",
                "go 9 false = 2", "inside = 1", "place = 1", "isAhead = true");
        test("a place of two digits", 17, '|', 1, "say [0=0:!g;!g;!g;!g;!g;!g;!g;!g;!g;!g;!g;!g;!g;!g;!g;!g|:0=1]", "size 0 = 19",
                "start 0 true = 0", "go 99 false = 17", "place = 17");
    }

    /** A run that breaks with one cause. */
    private static void one(String sentence, char letter, int number, String... lines) {
        List<String> first = new ArrayList<>(Arrays.asList(lines));
        first.addAll(Arrays.asList("state = b", "why 0 = " + letter, "why 1 = " + NO_CAUSE));
        Script.promise(23, sentence, first.toArray(new String[0]));
        List<String> second = new ArrayList<>(Arrays.asList(lines));
        second.addAll(Arrays.asList("state = b", "whyNumber 0 = " + number, "whyNumber 1 = " + NO_CAUSE));
        Script.promise(24, sentence, second.toArray(new String[0]));
    }

    private static void variableIsNotZero() {
        one("'z' with the number of the first variable, a being 0", 'z', 0, "say ?a", "set a 1", "start 0 true = 0", "go 1 false = 0");
        one("'z' with the number of the last variable, 7", 'z', 7, "say ?h", "set h 1", "start 0 true = 0", "go 1 false = 0");
        one("'z' below 0, too", 'z', 2, "say ?c", "set c -1", "start 0 true = 0", "go 1 false = 0");
        one("'z' of the least int", 'z', 2, "say ?c", "set c -2147483648", "start 0 true = 0", "go 1 false = 0");
        one("'z' of a ! undone", 'z', 3, "say !d", "set d 1", "start 0 false = 1", "go 1 false = 0");
        one("a ? done looks at the variable first: 'z' though the stack is empty", 'z', 0, "say ?a", "set a 1", "stacked = 0",
                "start 0 true = 0", "go 1 false = 0");
        one("a ! undone looks at the variable first: 'z' though the stack is empty", 'z', 0, "say !a", "set a 1", "stacked = 0",
                "start 0 false = 1", "go 1 false = 0");
        one("'z' though the stack has a value", 'z', 1, "say !a", "say ?b", "run 0 true = 1", "set b 1", "start 1 true = 0",
                "go 1 false = 0");
        one("'z' though the stack is full", 'z', 1, FULL_STACK, "say ?b", "run 0 true = 20", "set b 1", "start 1 true = 0",
                "go 1 false = 0");
    }

    private static void emptyStack() {
        one("'e' with the first variable", 'e', 0, "say ?a", "start 0 true = 0", "go 1 false = 0");
        one("'e' with the last variable", 'e', 7, "say ?h", "start 0 true = 0", "go 1 false = 0");
        one("'e' of a ! undone", 'e', 3, "say !d", "start 0 false = 1", "go 1 false = 0");
        one("'e' when the last value was taken", 'e', 1, "say !a", "say ?b;?b", "run 0 true = 1", "start 1 true = 0", "go 9 false = 1",
                "stacked = 0");
        Script.promise(23, "no 'e' while there is one value", "say !a", "say ?b", "run 0 true = 1", "start 1 true = 0", "go 1 false = 1",
                "state = e");
    }

    private static void fullStack() {
        one("'f' with 20", 'f', 20, FULL_STACK, "say !a", "run 0 true = 20", "start 1 true = 0", "go 1 false = 0");
        one("'f' with 20 of the last variable", 'f', 20, FULL_STACK, "say !h", "run 0 true = 20", "set h 3", "start 1 true = 0",
                "go 1 false = 0");
        one("'f' of a ? undone", 'f', 20, FULL_STACK, "say ?a", "run 0 true = 20", "start 1 false = 1", "go 1 false = 0");
        one("a ! done does not look at the variable: 'f' though it is not 0", 'f', 20, FULL_STACK, "say !a", "run 0 true = 20", "set a 5",
                "start 1 true = 0", "go 1 false = 0");
        Script.promise(23, "no 'f' while there are 19", FULL_STACK, "say ?a", "say !a", "run 0 true = 20", "run 1 true = 1",
                "stacked = 19", "start 2 true = 0", "go 1 false = 1", "state = e", "stacked = 20");
    }

    private static void missingProcedure() {
        one("'p' with its number, the one behind the last one", 'p', 1, "say @1", "start 0 true = 0", "go 1 false = 0");
        one("'p' with its number, 5 being the greatest", 'p', 5, "say @5", "say a+1", "say a+1", "say a+1", "say a+1", "start 0 true = 0",
                "go 1 false = 0");
        one("'p' of an uncall", 'p', 3, "say $3", "start 0 true = 0", "go 1 false = 0");
        one("'p' of a call undone", 'p', 3, "say @3", "start 0 false = 1", "go 1 false = 0");
        one("'p' of an uncall undone", 'p', 3, "say $3", "start 0 false = 1", "go 1 false = 0");
        one("'p' within a call", 'p', 2, "say @1", "say @2", "start 0 true = 0", "go 9 false = 1", "inside = 1");
        one("'p', which is listed first, though 20 are open", 'p', 5, "say [b=20:@5|b+1;@0:c=1]", "start 0 true = 0", "go 500 false = 61",
                "depth = 20");
        Script.promise(23, "no 'p' of a procedure that was made since then", "say @1", "start 0 true = 0", "go 1 false = 0", "why 0 = p",
                "say a+1", "state = b", "why 0 = p", "go 9 false = 2", "state = e", "get a = 1");
        Script.promise(23, "no 'p' of a procedure that was made by turning since then", "say @1;a+1", "start 0 true = 0",
                "go 1 false = 0", "why 0 = p", "say b-1", "go 9 false = 3", "state = e", "get b = -1");
        Script.promise(23, "procedure 0 is not missing", "say @1", "say b+1", "start 0 true = 0", "go 9 false = 2", "state = e");
        Script.promise(23, "the last of 6 is not missing", "say @5", "say a+1", "say a+1", "say a+1", "say a+1", "say b+1",
                "start 0 true = 0", "go 9 false = 2", "state = e", "get b = 1");
    }

    private static void tooManyCalls() {
        one("'d' with 20 when 20 are open", 'd', 20, "say @0", "start 0 true = 0", "go 500 false = 20");
        one("'d' of an uncall", 'd', 20, "say [b=20:$0|b+1;@0:c=1]", "start 0 true = 0", "go 500 false = 61", "depth = 20");
        one("'d' of a call undone", 'd', 20, "say @0", "start 0 false = 1", "go 500 false = 20");
        one("'d' of an empty procedure's call, too", 'd', 20, "say [b=20:@1|b+1;@0:c=1]", "define = 1", "start 0 true = 0",
                "go 500 false = 61", "depth = 20");
        Script.promise(23, "no 'd' while 19 are open", "say @0", "start 0 true = 0", "go 19 false = 19", "depth = 19", "go 1 false = 1",
                "depth = 20", "state = g", "why 0 = " + NO_CAUSE);
    }

    private static void changesNothing() {
        both("a step that breaks at a test changes nothing", "say {a=1:|:a=0}", "set a 5", "start 0 true = 0", "go 9 false = 0", "get a = 5",
                "place = 0", "inside = 0", "depth = 0", "isAhead = true", "steps = 0");
        both("a ? that breaks for its variable changes nothing", "say !b", "say ?a", "set b 3", "run 0 true = 1", "set a 5",
                "start 1 true = 0", "go 9 false = 0", "get a = 5", "stacked = 1", "stackAt 0 = 3", "place = 0");
        both("a ? that breaks for the stack changes nothing", "say ?a", "start 0 true = 0", "go 9 false = 0", "get a = 0", "stacked = 0",
                "place = 0");
        both("a ! that breaks changes nothing", FULL_STACK, "say !a", "run 0 true = 20", "set a 5", "start 1 true = 0", "go 9 false = 0",
                "get a = 5", "stacked = 20", "stackAt 0 = 0", "place = 0");
        both("a call that breaks for the procedure changes nothing", "say a+1;@1", "start 0 true = 0", "go 9 false = 1", "depth = 0",
                "inside = 0", "place = 1", "isAhead = true");
        both("a call that breaks for those open changes nothing", "say a+1;@0;b+1", "start 0 true = 0", "go 500 false = 41", "depth = 20",
                "inside = 0", "place = 1", "isAhead = true", "get a = 21", "get b = 0", "steps = 41");
        both("to ask changes nothing", "say ?a;b+1", "start 0 true = 0", "go 1 false = 0", "why 0 = e", "why 0 = e", "whyNumber 0 = 0",
                "whyNumber 0 = 0", "state = b");
    }

    private static void isGone() {
        both("until it goes on: then there is none", "say ?a;b+1;c+1", "set a 1", "say !d", "run 1 true = 1", "start 0 true = 0",
                "go 1 false = 0", "why 0 = z", "set a 0", "go 2 false = 2", "state = g", "why 0 = " + NO_CAUSE);
        both("until it goes on, perhaps turned: then there is none", "say b+1;c+1;?a", "start 0 true = 0", "go 9 false = 2", "why 0 = e",
                "go 1 true = 1", "why 0 = " + NO_CAUSE);
        both("until it goes on, though by 0 steps to its end", "say ?a", "start 0 true = 0", "go 9 false = 0", "why 0 = e", "go 1 true = 0",
                "state = e", "why 0 = " + NO_CAUSE);
        both("until it goes on: it may break for another cause", "say ?a", "start 0 true = 0", "go 9 false = 0", "why 0 = e",
                "whyNumber 0 = 0", "set a 1", "why 0 = e", "go 9 false = 0", "why 0 = z", "whyNumber 0 = 0");
        both("until it goes on, perhaps turned: it may break for another cause", "say b+1;!c;?a", "start 0 true = 0", "go 9 false = 3",
                "state = e", "set c 4", "start 0 true = 0", "go 1 false = 1", "go 1 true = 1", "state = e", "say !d;?h;?h", "set d 6",
                "start 1 true = 0", "go 9 false = 2", "why 0 = z", "whyNumber 0 = 7", "set d 5", "set h 0", "go 9 true = 1", "why 0 = z",
                "whyNumber 0 = 3", "place = 1");
        both("a run begun in place of it is not broken", "say ?a", "start 0 true = 0", "go 9 false = 0", "why 0 = e", "start 0 true = 0",
                "why 0 = " + NO_CAUSE);
        both("a refused call leaves the cause", "say ?a", "start 0 true = 0", "go 9 false = 0", "go 0 true = throws IllegalArgumentException",
                "start 9 true = throws IndexOutOfBoundsException", "why 0 = e", "whyNumber 0 = 0");
        both("a whole run leaves the cause", "say ?a", "say {a=1:|:a=0}", "say b+1", "start 0 true = 0", "go 9 false = 0",
                "run 1 true = throws UnsupportedOperationException", "run 2 true = 1", "why 0 = e", "whyNumber 0 = 0", "why 1 = " + NO_CAUSE);
        both("a table leaves the cause", "say ?a", "say {a=1:|:a=0}", "start 0 true = 0", "go 9 false = 0", "works 1 b = 0", "alike 1 a = 0",
                "image 1 a 0 = " + NO_CAUSE, "why 0 = e", "whyNumber 0 = 0", "why 1 = " + NO_CAUSE);
        both("to set a variable leaves the cause", "say ?a", "set a 1", "start 0 true = 0", "go 9 false = 0", "set a 0", "why 0 = z",
                "whyNumber 0 = 0");
    }
}
