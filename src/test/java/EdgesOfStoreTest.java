import java.util.ArrayList;
import java.util.Arrays;
import java.util.List;

/** The boundary cases of promises 12 to 15 and 26, a test for each sentence: variables, the stack, erasing. */
public final class EdgesOfStoreTest {
    private static final String BAD = "throws IllegalArgumentException";
    private static final String BEHIND = "throws IndexOutOfBoundsException";

    public static void main(String[] args) {
        set();
        setWhileStopped();
        get();
        stacked();
        stackAt();
        erase();
        eraseBits();
        Script.allPromised(12, 15);
        Script.allPromised(26, 26);
        Script.end("EdgesOfStoreTest");
    }

    /** Lines that put the values from 1 on onto the stack, by procedure 0, so that the last one is this many. */
    private static String[] pushed(int count, String... others) {
        List<String> lines = new ArrayList<>(Arrays.asList("say !a"));
        for (int i = 1; i <= count; i++) {
            lines.add("set a " + i);
            lines.add("run 0 true = 1");
        }
        lines.addAll(Arrays.asList(others));
        return lines.toArray(new String[0]);
    }

    private static void set() {
        Script.promise(12, "the first variable is 'a'", "set a 5 = 0", "get a = 5");
        Script.promise(12, "the last variable is 'h'", "set h 5 = 0", "get h = 5");
        Script.promise(12, "ahead of 'a' there is no variable", "set ` 1 = " + BAD);
        Script.promise(12, "behind 'h' there is no variable", "set i 1 = " + BAD);
        Script.promise(12, "a capital is no variable", "set A 1 = " + BAD, "set H 1 = " + BAD);
        Script.promise(12, "the signs at both ends are no variables", "set #0 1 = " + BAD, "set #65535 1 = " + BAD);
        Script.promise(12, "a sign with the last bits of a variable is none", "set #353 1 = " + BAD, "set #360 1 = " + BAD,
                "set #33 1 = " + BAD, "set #225 1 = " + BAD);
        Script.promise(12, "any value: the greatest", "set b 2147483647 = 0", "get b = 2147483647", "set b 0 = 2147483647");
        Script.promise(12, "any value: the least", "set b -2147483648 = 0", "get b = -2147483648", "set b 0 = -2147483648");
        Script.promise(12, "returns the value before, 0 at first", "set a 3 = 0", "set b 4 = 0", "set c 5 = 0", "set d 6 = 0",
                "set e 7 = 0", "set f 8 = 0", "set g 9 = 0", "set h 10 = 0", "set a 0 = 3", "set h 0 = 10", "set a 1 = 0");
        Script.promise(12, "the same value again is the value before", "set a 3 = 0", "set a 3 = 3");
        Script.promise(12, "the other variables stay", "set d 9 = 0", "get a = 0", "get c = 0", "get e = 0", "get h = 0", "set d 1 = 9");
        Script.promise(12, "a call that was refused sets none", "set a 4", "set h 6", "set i 1 = " + BAD, "set ` 1 = " + BAD,
                "get a = 4", "get h = 6", "set a 0 = 4", "set h 0 = 6");
    }

    private static void setWhileStopped() {
        Script.promise(12, "also while a run is stopped: the run goes on with it", "say a+1;b+a", "start 0 true = 0", "go 1 false = 1",
                "set a 50 = 1", "state = g", "place = 1", "go 1 false = 1", "get b = 50");
        Script.promise(12, "also while a run is stopped within a call", "say @1;c+a", "say b+1;b+a", "start 0 true = 0", "go 2 false = 2",
                "set a 8 = 0", "depth = 1", "place = 1", "inside = 1", "go 9 false = 2", "get b = 9", "get c = 8", "state = e");
        Script.promise(12, "also while a run is broken, which it stays", "say ?a", "set a 2", "start 0 true = 0", "go 1 false = 0",
                "set a 0 = 2", "state = b", "why 0 = z", "whyNumber 0 = 0", "place = 0", "go 1 false = 0", "why 0 = e");
        Script.promise(12, "also while a run is at its end, where it stays", "say a+1", "start 0 true = 0", "go 1 false = 1",
                "set a 9 = 1", "state = e", "go 1 false = 0", "get a = 9", "go 1 true = 1", "get a = 8");
        Script.promise(12, "a call that was refused leaves the run", "say a+1;?b", "set b 3", "start 0 true = 0", "go 5 false = 1",
                "set z 0 = " + BAD, "state = b", "why 0 = z", "whyNumber 0 = 1");
    }

    private static void get() {
        Script.promise(13, "all variables are 0 at first", "get a = 0", "get b = 0", "get c = 0", "get d = 0", "get e = 0", "get f = 0",
                "get g = 0", "get h = 0");
        Script.promise(13, "the first variable is 'a'", "set b 1", "set a -7", "get a = -7");
        Script.promise(13, "the last variable is 'h'", "set g 1", "set h -7", "get h = -7");
        Script.promise(13, "each variable has a value of its own", "set a 11", "set b 12", "set c 13", "set d 14", "set e 15", "set f 16",
                "set g 17", "set h 18", "get a = 11", "get b = 12", "get c = 13", "get d = 14", "get e = 15", "get f = 16", "get g = 17",
                "get h = 18");
        Script.promise(13, "ahead of 'a' there is no variable", "get ` = " + BAD);
        Script.promise(13, "behind 'h' there is no variable", "get i = " + BAD);
        Script.promise(13, "a capital is no variable", "get A = " + BAD, "get H = " + BAD);
        Script.promise(13, "the signs at both ends are no variables", "get #0 = " + BAD, "get #65535 = " + BAD);
        Script.promise(13, "a sign with the last bits of a variable is none", "get #353 = " + BAD, "get #360 = " + BAD,
                "get #33 = " + BAD, "get #225 = " + BAD);
        Script.promise(13, "does not change the variable", "set c 5", "get c = 5", "get c = 5");
        Script.promise(13, "ints go round above the greatest", "say a+1", "set a 2147483647", "run 0 true = 1", "get a = -2147483648");
        Script.promise(13, "ints go round below the least", "say a-1", "set a -2147483648", "run 0 true = 1", "get a = 2147483647");
    }

    private static void stacked() {
        Script.promise(14, "the stack of a new object is empty", "stacked = 0");
        Script.promise(14, "1 with one value", pushed(1, "stacked = 1"));
        Script.promise(14, "a value 0 is one, too", "say !b", "run 0 true = 1", "stacked = 1", "run 0 true = 1", "stacked = 2");
        Script.promise(14, "20 on a full stack", pushed(20, "stacked = 20"));
        Script.promise(14, "what cannot be put onto a full stack does not count", pushed(20, "set a 9",
                "run 0 true = throws UnsupportedOperationException", "stacked = 20", "start 0 true = 0", "go 1 false = 0", "stacked = 20",
                "get a = 9"));
        Script.promise(14, "0 again when all were taken", pushed(2, "run 0 false = 1", "stacked = 1", "set a 0", "run 0 false = 1",
                "stacked = 0"));
        Script.promise(14, "what cannot be taken from an empty stack does not count", "say ?a", "start 0 true = 0", "go 1 false = 0",
                "stacked = 0", "run 0 true = throws UnsupportedOperationException", "stacked = 0");
        Script.promise(14, "erasing leaves the stack", pushed(1, "set a 3", "erase a = 2", "stacked = 1", "stackAt 0 = 1"));
    }

    private static void stackAt() {
        Script.promise(15, "an empty stack has no value", "stackAt 0 = " + BEHIND);
        Script.promise(15, "depth 0 is the last one", pushed(3, "stackAt 0 = 3"));
        Script.promise(15, "the depth of the number of values less 1 is the first one", pushed(3, "stackAt 2 = 1", "stackAt 1 = 2"));
        Script.promise(15, "at the number of values there is none", pushed(3, "stackAt 3 = " + BEHIND));
        Script.promise(15, "below depth 0 there is none", pushed(3, "stackAt -1 = " + BEHIND, "stackAt -2147483648 = " + BEHIND));
        Script.promise(15, "far behind there is none", pushed(3, "stackAt 2147483647 = " + BEHIND, "stackAt 20 = " + BEHIND));
        Script.promise(15, "depth 19 is the first one of a full stack", pushed(20, "stackAt 19 = 1", "stackAt 0 = 20"));
        Script.promise(15, "depth 20 is none on a full stack", pushed(20, "stackAt 20 = " + BEHIND));
        Script.promise(15, "a value that was taken is none", pushed(2, "run 0 false = 1", "stackAt 0 = 1", "stackAt 1 = " + BEHIND));
        Script.promise(15, "values are whole ints", "say !b", "set b -2147483648", "run 0 true = 1", "set b 2147483647",
                "run 0 true = 1", "stackAt 0 = 2147483647", "stackAt 1 = -2147483648");
    }

    private static void erase() {
        Script.promise(26, "the first variable is 'a'", "set a 7", "erase a = 3", "get a = 0");
        Script.promise(26, "the last variable is 'h'", "set h 7", "erase h = 3", "get h = 0");
        Script.promise(26, "ahead of 'a' there is no variable", "erase ` = " + BAD);
        Script.promise(26, "behind 'h' there is no variable", "erase i = " + BAD);
        Script.promise(26, "a capital is no variable", "erase A = " + BAD, "erase H = " + BAD);
        Script.promise(26, "the signs at both ends are no variables", "erase #0 = " + BAD, "erase #65535 = " + BAD);
        Script.promise(26, "a sign with the last bits of a variable is none", "set a 1", "set h 1", "erase #353 = " + BAD,
                "erase #360 = " + BAD, "erase #33 = " + BAD, "get a = 1", "get h = 1");
        Script.promise(26, "makes it 0, and no other", "set a 1", "set b 2", "set c 4", "erase b = 1", "get b = 0", "get a = 1",
                "get c = 4");
        Script.promise(26, "a call that was refused erases nothing", "set a 3", "set h 3", "erase i = " + BAD, "erase a = 2",
                "erase h = 4");
        Script.promise(26, "a run goes on with the variable that was erased", "say a+3;b+a", "start 0 true = 0", "go 1 false = 1",
                "erase a = 2", "state = g", "place = 1", "go 1 false = 1", "get b = 0");
    }

    private static void eraseBits() {
        Script.promise(26, "0 bits of a variable that is 0", "erase a = 0", "erase h = 0");
        Script.promise(26, "1 bit of the least value", "set a -2147483648", "erase a = 1");
        Script.promise(26, "31 bits of the greatest value", "set a 2147483647", "erase a = 31");
        Script.promise(26, "32 bits of -1", "set a -1", "erase a = 32");
        Script.promise(26, "an erased variable has no ones any more", "set a 5", "erase a = 2", "erase a = 2");
        Script.promise(26, "returns how many were erased so far, of all variables", "set a 1", "erase a = 1", "set b 3", "erase b = 3",
                "set h 7", "erase h = 6", "set a -1", "erase a = 38", "erase c = 38");
        List<String> often = new ArrayList<>();
        for (int i = 1; i <= 255; i++) {
            often.add("set c -1 = 0");
            often.add("erase c = " + 32 * i);
        }
        Script.promise(26, "as often as an object is used", often.toArray(new String[0]));
        Script.promise(26, "to set a variable 0 erases no bits", "set a 7", "set a 0 = 7", "erase a = 0");
        Script.promise(26, "runs erase no bits, though they make a variable 0", "say !a;?a;a-5", "set a 5", "run 0 true = 3",
                "get a = 0", "erase a = 0");
    }
}
