import java.util.ArrayList;
import java.util.Arrays;
import java.util.List;

/** Promises 12 to 27: variables, the stack, runs that stop and turn, why they break, erasing. */
public final class RunningTest {
    private static final String CHOICE = "say [a=0:b+1|c+1:b=1]";
    private static final String LOOP = "say {a=0:a+1|b+1:a=3}";

    public static void main(String[] args) {
        variables();
        updates();
        stack();
        stackLimits();
        beginning();
        goingOn();
        choicesAhead();
        choicesBack();
        loopsAhead();
        loopsBack();
        emptyRows();
        calls();
        callsBack();
        turnsInsideCalls();
        cameBackAtOnce();
        callLimits();
        whyIsGone();
        wholeRuns();
        longRuns();
        erasing();
        counting();
        Script.end("RunningTest");
    }

    private static void variables() {
        Script.run("variables", "get a = 0", "get h = 0", "set a 5 = 0", "set a -7 = 5", "get a = -7", "set h 2147483647 = 0",
                "set h -2147483648 = 2147483647", "get h = -2147483648", "get b = 0", "get g = 0",
                "set i 1 = throws IllegalArgumentException", "get i = throws IllegalArgumentException",
                "set ` 1 = throws IllegalArgumentException", "get ` = throws IllegalArgumentException",
                "set A 1 = throws IllegalArgumentException", "get A = throws IllegalArgumentException",
                "set #0 1 = throws IllegalArgumentException", "get #353 = throws IllegalArgumentException",
                "set #65535 1 = throws IllegalArgumentException");
    }

    private static void update(String text, int a, int b, int c, int ahead, int back) {
        Script.run("update " + text, "say " + text, "set a " + a, "set b " + b, "set c " + c, "run 0 true = 1", "get a = " + ahead,
                "get b = " + b, "get c = " + c, "run 0 false = 1", "get a = " + a, "run 0 false = 1", "get a = " + back,
                "get b = " + b, "get c = " + c, "steps = 3");
    }

    private static void updates() {
        update("a+7", 5, 0, 0, 12, -2);
        update("a-7", 5, 0, 0, -2, 12);
        update("a^7", 5, 0, 0, 2, 2);
        update("a+b", 5, 9, 0, 14, -4);
        update("a+b+c", 1, 20, 300, 321, -319);
        update("a+b-c", 1, 20, 300, -279, 281);
        update("a+b*c", 1, 20, 300, 6001, -5999);
        update("a+b&c", 1, 12, 10, 9, -7);
        update("a-b*c", 1, -3, 5, 16, -14);
        update("a^b-c", 1, 3, 5, -1, -1);
        update("a^b+c", 6, 3, 5, 14, 14);
        update("a+999*c", 0, 0, 3, 2997, -2997);
        update("a-c&12", 0, 0, 29, -12, 12);
        update("a+1", 2147483647, 0, 0, -2147483648, 2147483646);
        update("a+b*c", 0, 65536, 65537, 65536, -65536);
        update("a-b+c", 0, 2147483647, 1, -2147483648, -2147483648);
        Script.run("swaps", "say a~h", "set a 3", "set h 4", "run 0 true = 1", "get a = 4", "get h = 3", "run 0 false = 1",
                "get a = 3", "get h = 4");
        Script.run("all variables", "say a+b;b-c;c^d;d+e;e-f;f+g;g^h", "set h 1", "run 0 true = 7", "get g = 1", "run 0 true = 7",
                "get f = 1", "get g = 0", "run 0 false = 7", "get f = 0", "run 0 false = 7", "get g = 0", "get h = 1");
    }

    private static void stack() {
        Script.run("stack", "stacked = 0", "stackAt 0 = throws IndexOutOfBoundsException", "say !a;!b", "say ?c", "set a 5",
                "set b -6", "run 0 true = 2", "get a = 0", "get b = 0", "stacked = 2", "stackAt 0 = -6", "stackAt 1 = 5",
                "stackAt 2 = throws IndexOutOfBoundsException", "stackAt -1 = throws IndexOutOfBoundsException",
                "run 1 true = 1", "get c = -6", "stacked = 1", "stackAt 0 = 5", "stackAt 1 = throws IndexOutOfBoundsException",
                "run 1 false = 1", "get c = 0", "stacked = 2", "stackAt 0 = -6", "run 0 false = 2", "get a = 5", "get b = -6",
                "stacked = 0", "stackAt 0 = throws IndexOutOfBoundsException");
        Script.run("a ? looks at the variable first", "say ?a", "say ?h", "set a 1", "set h -1", "start 0 true = 0",
                "go 1 false = 0", "state = b", "why 0 = z", "whyNumber 0 = 0", "why 1 = throws NoSuchElementException",
                "whyNumber 1 = throws NoSuchElementException", "start 1 true = 0", "go 1 false = 0", "why 0 = z",
                "whyNumber 0 = 7", "set h 0", "go 1 false = 0", "why 0 = e", "whyNumber 0 = 7",
                "why 1 = throws NoSuchElementException", "start 0 true = 0", "set a 0", "go 500 false = 0", "why 0 = e",
                "whyNumber 0 = 0", "stacked = 0", "place = 0");
        Script.run("a ! undone looks at the variable first", "say !c", "set c 4", "start 0 false = 1", "go 1 false = 0",
                "state = b", "place = 1", "why 0 = z", "whyNumber 0 = 2", "set c 0", "go 1 false = 0", "why 0 = e",
                "whyNumber 0 = 2", "why 1 = throws NoSuchElementException", "set c 9", "go 1 true = 0", "state = e",
                "go 1 false = 0", "get c = 9");
        Script.run("a full variable stays in the way of what is stacked", "say !a", "say ?b", "set a 8", "run 0 true = 1",
                "set b 2", "start 1 true = 0", "go 1 false = 0", "why 0 = z", "whyNumber 0 = 1", "stacked = 1", "get b = 2",
                "set b 0", "go 1 false = 1", "state = e", "get b = 8", "stacked = 0");
    }

    private static void stackLimits() {
        List<String> lines = new ArrayList<>(Arrays.asList("say !e", "say ?f"));
        for (int i = 1; i <= 20; i++) {
            lines.add("set e " + i);
            lines.add("run 0 true = 1");
        }
        lines.addAll(Arrays.asList("stacked = 20", "stackAt 0 = 20", "stackAt 19 = 1",
                "stackAt 20 = throws IndexOutOfBoundsException", "run 0 true = throws UnsupportedOperationException",
                "set e 77", "start 0 true = 0", "go 1 false = 0", "why 0 = f", "whyNumber 0 = 20",
                "why 1 = throws NoSuchElementException", "get e = 77", "stacked = 20", "stackAt 0 = 20",
                "start 1 false = 1", "set f 5", "go 1 false = 0", "state = b", "why 0 = f", "whyNumber 0 = 20", "get f = 5",
                "run 1 false = throws UnsupportedOperationException", "set f 0", "go 1 false = 0", "why 0 = f",
                "go 1 true = 0", "state = e", "run 1 true = 1", "get f = 20", "stacked = 19"));
        Script.run("a full stack", lines.toArray(new String[0]));
    }

    private static void beginning() {
        Script.run("no run", "state = -", "place = throws IllegalStateException", "inside = throws IllegalStateException",
                "depth = throws IllegalStateException", "isAhead = throws IllegalStateException",
                "why 0 = throws NoSuchElementException", "whyNumber 0 = throws NoSuchElementException",
                "go 1 false = throws IllegalStateException", "go 500 true = throws IllegalStateException",
                "go 0 false = throws IllegalArgumentException", "go 501 true = throws IllegalArgumentException",
                "start 0 true = throws IndexOutOfBoundsException", "start -1 true = throws IndexOutOfBoundsException",
                "run 0 true = throws IndexOutOfBoundsException", "state = -", "say a+1", "run 0 true = 1", "state = -",
                "image 0 a 3 = 4", "state = -");
        Script.run("beginning", "say a+1;b+1;c+1", "say a+2", "start 0 true = 0", "place = 0", "inside = 0", "depth = 0",
                "isAhead = true", "state = g", "start 0 false = 3", "place = 3", "inside = 0", "isAhead = false", "state = g",
                "start 1 false = 1", "inside = 1", "place = 1", "start 2 true = throws IndexOutOfBoundsException",
                "start -1 false = throws IndexOutOfBoundsException", "inside = 1", "get a = 0", "steps = 0");
        Script.run("a new run in place of another one", "say @1;a+1", "say b+1;?c", "start 0 true = 0", "go 2 false = 2",
                "depth = 1", "place = 1", "inside = 1", "go 1 false = 0", "state = b", "start 0 false = 2", "state = g",
                "depth = 0", "inside = 0", "why 0 = throws NoSuchElementException", "go 1 false = 1", "get a = -1", "place = 1",
                "start 0 true = 0", "depth = 0", "place = 0");
        Script.run("an empty procedure", "define = 0", "start 0 true = 0", "state = e", "go 5 false = 0", "go 5 true = 0",
                "state = e", "isAhead = false", "start 0 false = 0", "state = e", "run 0 true = 0", "run 0 false = 0", "steps = 0");
    }

    private static void goingOn() {
        Script.run("going on", "say a+1;b+1;c+1;d+1", "start 0 true = 0", "go 1 false = 1", "place = 1", "state = g", "go 2 false = 2",
                "place = 3", "get c = 1", "get d = 0", "go 0 false = throws IllegalArgumentException",
                "go -1 true = throws IllegalArgumentException", "go 501 false = throws IllegalArgumentException",
                "go 2147483647 true = throws IllegalArgumentException", "place = 3", "isAhead = true", "go 500 false = 1",
                "state = e", "place = 4", "go 500 false = 0", "state = e", "place = 4", "steps = 4", "go 1 true = 1",
                "isAhead = false", "state = g", "place = 3", "get d = 0", "go 1 true = 1", "isAhead = true", "place = 4",
                "state = e", "go 9 true = 4", "state = e", "place = 0", "isAhead = false", "get a = 0", "go 9 false = 0",
                "state = e", "go 1 true = 1", "place = 1", "isAhead = true", "go 1 true = 1", "place = 0", "state = e", "steps = 12");
        Script.run("turned at its beginning", "say a+1", "start 0 true = 0", "go 3 true = 0", "state = e", "place = 0",
                "isAhead = false", "go 3 true = 1", "state = e", "place = 1", "isAhead = true", "get a = 1");
        Script.run("a variable set while it is stopped", "say a+b;c+a", "set b 2", "start 0 true = 0", "go 1 false = 1",
                "set a 40 = 2", "go 1 false = 1", "get c = 40", "set b 1", "go 2 true = 2", "get c = 0", "get a = 39");
        Script.run("erased while it is stopped", "say a+7;c+a", "start 0 true = 0", "go 1 false = 1", "erase a = 3",
                "place = 1", "state = g", "go 1 false = 1", "get c = 0");
    }

    private static void choicesAhead() {
        Script.run("the first row", CHOICE, "start 0 true = 0", "go 1 false = 1", "place = 1", "go 1 false = 1", "place = 2",
                "state = g", "go 1 false = 1", "place = 5", "state = e", "get b = 1", "get c = 0");
        Script.run("the second row", CHOICE, "set a 4", "start 0 true = 0", "go 1 false = 1", "place = 3", "go 1 false = 1",
                "place = 4", "go 1 false = 1", "place = 5", "state = e", "get b = 0", "get c = 1");
        Script.run("behind the first row it must hold", CHOICE, "set b 5", "start 0 true = 0", "go 500 false = 2", "state = b",
                "place = 2", "isAhead = true", "why 0 = t", "whyNumber 0 = 2", "why 1 = |", "whyNumber 1 = 1",
                "why 2 = throws NoSuchElementException", "whyNumber 2 = throws NoSuchElementException",
                "why -1 = throws NoSuchElementException", "whyNumber -1 = throws NoSuchElementException", "steps = 2",
                "go 500 false = 0", "state = b", "why 1 = |", "set b 1", "go 500 false = 1", "state = e", "place = 5");
        Script.run("behind the second row it must not hold", CHOICE, "set a 1", "set b 1", "start 0 true = 0", "go 500 false = 2",
                "state = b", "place = 4", "why 0 = t", "whyNumber 0 = 4", "why 1 = ]", "whyNumber 1 = 0", "go 500 true = 2",
                "state = e", "place = 0", "get c = 0");
        Script.run("less, same, more", "say [a<b:c+1|c-1:c>0]", "set b 1", "run 0 true = 3", "get c = 1", "set c 0", "set a 1",
                "run 0 true = 3", "get c = -1", "set c 0", "set a 2", "run 0 true = 3", "get c = -1", "say [a>b:d+1|d-1:d=1]",
                "run 1 true = 3", "get d = 1", "set a 1", "set d 0", "run 1 true = 3", "get d = -1", "set a 0", "set d 0",
                "run 1 true = 3", "get d = -1");
        Script.run("signed tests", "say [a<0:b+1|b-1:b>0]", "set a -2147483648", "run 0 true = 3", "get b = 1", "set b 0", "set a 0",
                "run 0 true = 3", "get b = -1", "set a 2147483647", "set b 0", "run 0 true = 3",
                "get b = -1");
        Script.run("swapped by a test of numbers", "say [9<10:a+1|b+1:010=10]", "run 0 true = 3", "get a = 1", "run 0 false = 3",
                "get a = 0");
    }

    private static void choicesBack() {
        Script.run("back by the first row", CHOICE, "set b 1", "start 0 false = 5", "go 1 false = 1", "place = 2", "go 1 false = 1",
                "place = 1", "get b = 0", "go 1 false = 1", "place = 0", "state = e");
        Script.run("back by the second row", CHOICE, "set a 3", "start 0 false = 5", "go 1 false = 1", "place = 4", "go 1 false = 1",
                "place = 3", "get c = -1", "go 1 false = 1", "place = 0", "state = e");
        Script.run("back ahead of the first row it must hold", CHOICE, "set a 3", "set b 1", "start 0 false = 5", "go 500 false = 2",
                "state = b", "place = 1", "why 0 = t", "whyNumber 0 = 0", "why 1 = [", "whyNumber 1 = 1", "isAhead = false",
                "set a 0", "go 500 false = 1", "state = e", "place = 0", "why 0 = throws NoSuchElementException");
        Script.run("back ahead of the second row it must not hold", CHOICE, "start 0 false = 5", "go 500 false = 2", "state = b",
                "place = 3", "why 0 = t", "whyNumber 0 = 2", "why 1 = |", "whyNumber 1 = 0", "get c = -1", "go 500 true = 2",
                "state = e", "place = 5", "get c = 0");
        Script.run("turned where both rows meet", CHOICE, "set a 4", "start 0 true = 0", "go 1 false = 1", "place = 3",
                "go 1 true = 1", "place = 0", "state = e", "set a 0", "go 1 true = 1", "place = 1", "set a 4", "go 1 true = 0",
                "state = b", "why 0 = t", "whyNumber 0 = 0", "why 1 = [", "whyNumber 1 = 1");
    }

    private static void loopsAhead() {
        Script.run("a loop", LOOP, "start 0 true = 0", "go 1 false = 1", "place = 1", "go 1 false = 1", "place = 2", "go 1 false = 1",
                "place = 3", "go 1 false = 1", "place = 4", "go 1 false = 1", "place = 1", "go 500 false = 6", "state = e",
                "place = 5", "get a = 3", "get b = 2", "steps = 11");
        Script.run("a loop begins where its test must hold", LOOP, "set a 1", "start 0 true = 0", "go 500 false = 0", "state = b",
                "place = 0", "why 0 = t", "whyNumber 0 = 0", "why 1 = {", "whyNumber 1 = 1",
                "why 2 = throws NoSuchElementException");
        Script.run("behind the second row it must not hold", "say {a=0:b+1|c+1:b=3}", "start 0 true = 0", "go 500 false = 4",
                "state = b", "place = 4", "why 0 = t", "whyNumber 0 = 4", "why 1 = }", "whyNumber 1 = 0", "get b = 1", "get c = 1",
                "set a 9", "go 500 false = 7", "state = e", "place = 5", "get b = 3", "get c = 2");
        Script.run("a loop gone through once", "say {a=0:b+1|c+1:b=1};d+1", "start 0 true = 0", "go 3 false = 3", "place = 5",
                "state = g", "go 9 false = 1", "get d = 1", "get c = 0");
    }

    private static void loopsBack() {
        Script.run("a loop back", LOOP, "set a 3", "set b 2", "start 0 false = 5", "go 1 false = 1", "place = 2", "go 1 false = 1",
                "place = 1", "get a = 2", "go 1 false = 1", "place = 4", "go 1 false = 1", "place = 3", "get b = 1",
                "go 1 false = 1", "place = 2", "go 500 false = 6", "state = e", "place = 0", "get a = 0", "get b = 0");
        Script.run("back it comes where its test must hold", LOOP, "set a 2", "start 0 false = 5", "go 500 false = 0", "state = b",
                "place = 5", "why 0 = t", "whyNumber 0 = 4", "why 1 = }", "whyNumber 1 = 1", "isAhead = false");
        Script.run("back ahead of the second row it must not hold", "say {a=0:b+1|c+1:d=0}", "set a 1", "start 0 false = 5",
                "go 500 false = 4", "state = b", "place = 3", "get b = -1", "get c = -1", "why 0 = t", "whyNumber 0 = 2",
                "why 1 = /", "whyNumber 1 = 0", "set d 5", "go 1 false = 1", "place = 2", "set a 0", "go 9 false = 2", "state = e");
        Script.run("turned within a loop", LOOP, "start 0 true = 0", "go 7 false = 7", "place = 3", "get a = 2", "go 500 true = 7",
                "state = e", "place = 0", "get a = 0", "get b = 0", "go 5 true = 5", "place = 1", "go 1 true = 1", "place = 4",
                "get b = 1");
    }

    private static void emptyRows() {
        Script.run("empty rows", "say [a=0:|:b=0]", "run 0 true = 2", "run 0 false = 2", "set a 1", "set b 1", "run 0 true = 2",
                "run 0 false = 2", "set a 0", "run 0 true = throws UnsupportedOperationException", "start 0 true = 0",
                "go 1 false = 1", "place = 1", "go 1 false = 0", "whyNumber 0 = 1", "go 2 true = 1", "place = 0", "start 0 false = 3",
                "go 9 false = 1", "place = 2", "state = b", "why 1 = |", "whyNumber 1 = 0");
        Script.run("empty rows of a loop", "say {a=0:|:b=0}", "run 0 true = 2", "run 0 false = 2", "set b 1", "start 0 true = 0",
                "go 2 false = 2", "place = 2", "go 9 false = 0", "state = b", "whyNumber 0 = 2", "why 1 = }", "whyNumber 1 = 0",
                "set a 1", "go 5 false = 5", "place = 1", "state = g", "set b 0", "go 500 false = 1", "state = e");
        Script.run("brackets within brackets", "say [a=0:{b=0:b+1|c+1:b=2}|[b=0:|d+1:b=0]:c=1];e+1", "start 0 true = 0",
                "go 500 false = 10", "state = e", "get b = 2", "get c = 1", "get e = 1", "go 500 true = 10", "get b = 0", "get c = 0",
                "set a 1", "go 500 true = 5", "state = e", "get d = 0", "go 500 true = 5", "state = e", "instruction 0 7 = [",
                "instruction 0 6 = |", "instruction 0 11 = ]", "size 0 = 13");
    }

    private static void calls() {
        Script.run("calls", "say a+1;b+2", "say @0;c+1;$0", "start 1 true = 0", "go 1 false = 1", "inside = 0", "place = 0",
                "depth = 1", "isAhead = true", "state = g", "go 1 false = 1", "place = 1", "get a = 1", "go 1 false = 1",
                "inside = 1", "place = 1", "depth = 0", "get b = 2", "go 1 false = 1", "place = 2", "go 1 false = 1", "inside = 0",
                "place = 2", "depth = 1", "isAhead = false", "go 1 false = 1", "get b = 0", "place = 1", "go 1 false = 1",
                "inside = 1", "place = 3", "depth = 0", "isAhead = true", "state = e", "get a = 0", "get c = 1", "steps = 7",
                "run 1 true = 7", "get c = 2");
        Script.run("no such procedure", "say b+1;@3", "start 0 true = 0", "go 500 false = 1", "state = b", "place = 1", "why 0 = p",
                "whyNumber 0 = 3", "why 1 = throws NoSuchElementException", "depth = 0", "say c+1", "say c+2",
                "go 500 false = 0", "say a+5", "state = b", "why 0 = p", "go 500 false = 2", "state = e", "get a = 5",
                "get c = 0", "text $5", "define = 4", "start 4 true = 0", "go 1 false = 0", "why 0 = p", "whyNumber 0 = 5",
                "start 4 false = 1", "go 1 false = 0", "why 0 = p", "whyNumber 0 = 5", "place = 1");
        Script.run("a break within a call", "say ?a", "say b+1;@0;b+1", "start 1 true = 0", "go 500 false = 2", "state = b",
                "inside = 0", "place = 0", "depth = 1", "why 0 = e", "whyNumber 0 = 0", "go 500 true = 1", "state = e", "inside = 1",
                "place = 0", "get b = 0", "isAhead = false");
    }

    private static void callsBack() {
        Script.run("calls undone", "say a+1;b+2", "say @0;c+1;$0", "start 1 false = 3", "go 1 false = 1", "inside = 0", "place = 0",
                "isAhead = true", "depth = 1", "go 1 false = 1", "get a = 1", "go 1 false = 1", "get b = 2", "inside = 1",
                "place = 2", "isAhead = false", "depth = 0", "go 1 false = 1", "get c = -1", "place = 1", "go 1 false = 1",
                "inside = 0", "place = 2", "isAhead = false", "depth = 1", "go 1 false = 1", "get b = 0", "go 1 false = 1",
                "get a = 0", "inside = 1", "place = 0", "depth = 0", "state = e", "steps = 7");
        Script.run("uncalls within uncalls", "say a+1", "say $0;b+1", "say $1", "run 2 true = 4", "get a = 1", "get b = -1",
                "run 2 false = 4", "get a = 0", "get b = 0");
    }

    private static void turnsInsideCalls() {
        Script.run("turned inside a call", "say a+1;b+2", "say @0;c+1;$0", "start 1 true = 0", "go 2 false = 2", "inside = 0",
                "place = 1", "go 1 true = 1", "inside = 1", "place = 0", "depth = 0", "isAhead = false", "state = e", "get a = 0");
        Script.run("turned where it came in", "say a+1;b+2", "say d+1;@0;c+1", "start 1 true = 0", "go 2 false = 2", "inside = 0",
                "place = 0", "go 5 true = 1", "inside = 1", "place = 0", "depth = 0", "get d = 0", "state = e");
        Script.run("turned at once where it came in", "say a+1", "say @0", "start 1 true = 0", "go 1 false = 1", "inside = 0",
                "go 5 true = 0", "inside = 1", "place = 0", "depth = 0", "isAhead = false", "state = e", "go 5 true = 2",
                "state = e", "inside = 1", "place = 1");
        Script.run("turned where an uncall came in", "say a+1;b+2", "say @0;c+1;$0", "start 1 true = 0", "go 5 false = 5",
                "inside = 0", "place = 2", "isAhead = false", "go 1 true = 1", "inside = 1", "place = 1", "isAhead = false",
                "get c = 0", "go 500 false = 3", "place = 0", "state = e", "get a = 0", "get b = 0");
        Script.run("turned within an uncall, and turned again", "say a+1;b+2", "say $0;c+1", "start 1 true = 0", "go 2 false = 2",
                "inside = 0", "place = 1", "isAhead = false", "get b = -2", "go 1 true = 1", "get b = 0", "inside = 1",
                "place = 0", "isAhead = false", "state = e", "go 2 true = 2", "inside = 0", "place = 1", "isAhead = false",
                "go 1 false = 1", "inside = 1", "place = 1", "isAhead = true", "go 1 false = 1", "state = e", "get c = 1");
        Script.run("all that are open are turned", "say a+1;a+2", "say b+1;$0;b+2", "say c+1;@1;c+2", "start 2 true = 0",
                "go 5 false = 5", "inside = 0", "depth = 2", "place = 1", "isAhead = false", "get a = -2", "go 1 true = 1",
                "inside = 1", "place = 1", "depth = 1", "isAhead = false", "go 1 false = 1", "inside = 2", "place = 1",
                "depth = 0", "get b = 0", "go 9 false = 1", "place = 0", "get c = 0", "state = e", "go 500 true = 8", "state = e",
                "get a = -3", "get b = 3", "get c = 3", "place = 3");
    }

    private static void cameBackAtOnce() {
        Script.run("comes back at once", "say a+1", "say @0", "say @1", "start 2 true = 0", "go 1 false = 1", "inside = 1", "depth = 1",
                "place = 0", "go 1 false = 1", "inside = 0", "depth = 2", "go 1 false = 1", "inside = 2", "depth = 0", "place = 1",
                "state = e", "go 1 true = 1", "inside = 1", "place = 1", "go 1 false = 1", "inside = 0", "place = 1",
                "isAhead = false", "go 1 false = 1", "inside = 2", "place = 0", "state = e");
        Script.run("an empty procedure called", "say a+0", "say a+1", "wipe = 0", "define = 2", "say @2;$2;a+1", "start 3 true = 0",
                "go 1 false = 1", "inside = 3", "place = 1", "depth = 0", "isAhead = true", "go 1 false = 1", "inside = 3",
                "place = 2", "isAhead = true", "go 2 false = 1", "state = e", "go 2 true = 2", "inside = 3", "place = 1",
                "isAhead = false", "go 2 false = 1", "place = 0", "state = e");
    }

    private static void callLimits() {
        Script.run("20 calls", "say @0", "start 0 true = 0", "go 19 false = 19", "depth = 19", "state = g", "go 1 false = 1",
                "depth = 20", "state = g", "go 1 false = 0", "state = b", "depth = 20", "place = 0", "inside = 0", "why 0 = d",
                "whyNumber 0 = 20", "why 1 = throws NoSuchElementException", "run 0 true = throws UnsupportedOperationException",
                "state = b", "go 500 true = 0", "state = e", "depth = 0", "place = 0", "isAhead = false", "steps = 20",
                "start 0 false = 1", "go 500 false = 20", "depth = 20", "why 0 = d", "isAhead = false", "place = 1");
        Script.run("20 calls that end", "say b+1;[b=21:c+1|@0:0<b]", "start 0 true = 0", "go 500 false = 64", "depth = 19",
                "state = b", "why 0 = t", "why 1 = ]", "whyNumber 1 = 0", "whyNumber 0 = 5", "get b = 21", "get c = 1");
        Script.run("20 calls and back", "say b+1;[b=21:c+1|@0:c=0]", "start 0 true = 0", "go 500 false = 63", "depth = 20",
                "state = b", "why 1 = |", "go 500 true = 43", "state = e", "get b = 0", "get c = 0", "depth = 0", "place = 0");
        Script.run("missing ahead of 20 calls", "say b+1;[b=21:@5|@0:0=0]", "start 0 true = 0", "go 500 false = 62", "depth = 20",
                "why 0 = p", "whyNumber 0 = 5");
        Script.run("an uncall is a call", "say $0", "start 0 true = 0", "go 500 false = 20", "depth = 20", "why 0 = d", "place = 0",
                "isAhead = true");
    }

    private static void whyIsGone() {
        Script.run("why is gone as it goes on", "say ?a;?b", "say !c", "set c 1", "run 1 true = 1", "start 0 true = 0", "go 9 false = 1",
                "state = b", "why 0 = e", "whyNumber 0 = 1", "set a 0 = 1", "set c 3", "run 1 true = 1", "state = b", "why 0 = e",
                "place = 1", "go 9 false = 1", "state = e", "why 0 = throws NoSuchElementException",
                "whyNumber 0 = throws NoSuchElementException", "get b = 3");
        Script.run("another why", "say [a=0:?b|:a=0]", "start 0 true = 0", "go 9 false = 1", "why 0 = e", "whyNumber 0 = 1", "set b 4",
                "go 9 false = 0", "why 0 = z", "set a 5", "go 9 true = 0", "why 0 = t", "whyNumber 0 = 0", "why 1 = [",
                "whyNumber 1 = 1", "go 9 true = 0", "why 0 = z", "why 1 = throws NoSuchElementException", "state = b");
    }

    private static void wholeRuns() {
        Script.run("whole runs", "say a+1;b+a", "run 0 true = 2", "get a = 1", "get b = 1", "run 0 true = 2", "get b = 3",
                "run 0 false = 2", "get b = 1", "get a = 1", "run 1 true = throws IndexOutOfBoundsException",
                "run -1 true = throws IndexOutOfBoundsException", "steps = 6");
        Script.run("refused, all is as before", "say a+1;!a;!b;?c", "say ?d;?d", "set b 2", "run 0 true = 4", "get c = 2", "stacked = 1",
                "stackAt 0 = 1", "set a 7", "set b 8", "run 0 true = throws UnsupportedOperationException", "get a = 7", "get b = 8",
                "get c = 2", "stacked = 1", "stackAt 0 = 1", "steps = 4", "run 1 true = throws UnsupportedOperationException",
                "get d = 0", "stacked = 1", "stackAt 0 = 1", "steps = 4", "state = -");
        Script.run("a run that was begun stays", "say a+1;a+1;a+1", "say b+1;?c", "start 0 true = 0", "go 1 false = 1", "run 0 true = 3",
                "place = 1", "inside = 0", "state = g", "isAhead = true", "get a = 4", "go 9 false = 2", "get a = 6", "start 1 true = 0",
                "go 9 false = 1", "state = b", "why 0 = e", "run 0 false = 3", "state = b", "why 0 = e", "whyNumber 0 = 2",
                "inside = 1", "place = 1", "run 1 true = throws UnsupportedOperationException", "get b = 1", "steps = 10",
                "go 9 true = 1", "state = e", "get b = 0", "steps = 11");
    }

    private static void longRuns() {
        Script.run("500 steps", "say b+1;c+1;{a=0:a+1|:a=166}", "run 0 true = 500", "get a = 166", "steps = 500", "run 0 false = 500",
                "get a = 0", "get b = 0", "steps = 1000", "image 0 a 0 = 166", "start 0 true = 0", "go 500 false = 500",
                "state = e", "start 0 false = 6", "go 499 false = 499", "state = g", "go 1 false = 1", "state = e");
        Script.run("501 steps", "say b+1;c+1;d+1;{a=0:a+1|:a=166}", "run 0 true = throws UnsupportedOperationException", "steps = 0",
                "get b = 0", "image 0 a 0 = throws NoSuchElementException", "works 0 a = 0", "start 0 true = 0",
                "go 500 false = 500", "state = g", "place = 5", "go 500 false = 1", "state = e", "steps = 501",
                "run 0 false = throws UnsupportedOperationException", "get a = 166", "run 0 true = throws UnsupportedOperationException");
        Script.run("500 steps with calls", "say a+1", "say @0;@0;@0;@0;@0;@0;@0;@0;@0;@0;@0;@0;@0;@0;@0;@0;@0;@0;@0;@0",
                "run 1 true = 40", "get a = 20", "size 1 = 20", "say @1;@1;@1;@1;@1;@1;@1;@1;@1;@1;@1;@1", "run 2 true = 492",
                "get a = 260", "say @2;@1", "run 3 true = throws UnsupportedOperationException", "say @2;a+1;a+1;a+1;a+1;a+1;a+1;a+1",
                "run 4 true = 500", "get a = 507", "say a+1;@4", "run 5 true = throws UnsupportedOperationException", "get a = 507",
                "start 5 true = 0", "go 500 false = 500", "state = g", "go 500 false = 2", "state = e");
        Script.run("without an end", "say {a=0:a+1|b+1:c=1}", "run 0 true = throws UnsupportedOperationException",
                "works 0 c = 1", "start 0 true = 0", "go 500 false = 500", "state = g", "go 500 false = 500", "steps = 1000");
    }

    private static void erasing() {
        Script.run("erasing", "erase a = 0", "set a 7", "erase a = 3", "get a = 0", "erase a = 3", "set b -1", "erase b = 35",
                "get b = 0", "set h -2147483648", "erase h = 36", "set c 2147483647", "erase c = 67",
                "erase i = throws IllegalArgumentException", "erase ` = throws IllegalArgumentException",
                "erase H = throws IllegalArgumentException", "erase #0 = throws IllegalArgumentException", "erase d = 67");
        List<String> lines = new ArrayList<>();
        for (int i = 1; i <= 100; i++) {
            lines.add("set g -1 = 0");
            lines.add("erase g = " + 32 * i);
        }
        Script.run("erasing often", lines.toArray(new String[0]));
    }

    private static void counting() {
        Script.run("steps", "steps = 0", "say a+1;b+1", "say ?c", "start 0 true = 0", "go 1 false = 1", "steps = 1", "go 5 false = 1",
                "steps = 2", "go 5 false = 0", "steps = 2", "run 0 true = 2", "steps = 4",
                "run 1 true = throws UnsupportedOperationException", "steps = 4", "image 0 a 5 = 6", "works 0 a = 16",
                "alike 0 a = 1", "steps = 4", "go 2 true = 2", "steps = 6", "start 1 true = 0", "go 5 false = 0", "steps = 6",
                "go 501 false = throws IllegalArgumentException", "isSound = true", "steps = 6");
    }
}
