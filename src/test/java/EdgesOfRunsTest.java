/** The boundary cases of promises 16 to 22, a test for each sentence: runs that begin, go on, turn and end. */
public final class EdgesOfRunsTest {
    private static final String BEHIND = "throws IndexOutOfBoundsException";
    private static final String NONE = "throws IllegalStateException";
    private static final String BAD = "throws IllegalArgumentException";
    private static final String STEPS_501 = "say b+1;c+1;d+1;{a=0:a+1|:a=166}";

    public static void main(String[] args) {
        start();
        startInPlaceOfAnother();
        most();
        goNone();
        goEnds();
        goBreaks();
        turns();
        callsDone();
        callsUndone();
        comesBackAtOnce();
        state();
        noneBegun();
        place();
        inside();
        depth();
        isAhead();
        Script.allPromised(16, 22);
        Script.end("EdgesOfRunsTest");
    }

    private static void start() {
        Script.promise(16, "forward it begins at the beginning, place 0", "say a+1;b+1", "start 0 true = 0", "place = 0");
        Script.promise(16, "backward it begins at the end, the last place", "say a+1;b+1", "start 0 false = 2", "place = 2");
        Script.promise(16, "the last place is behind all 20 instructions", "say !a;!a;!a;!a;!a;!a;!a;!a;!a;!a;!a;!a;!a;!a;!a;!a;!a;!a;!a;!a",
                "start 0 false = 20", "place = 20");
        Script.promise(16, "an empty procedure has its end at its beginning", "define = 0", "start 0 true = 0", "start 0 false = 0",
                "place = 0");
        Script.promise(16, "does no step", "say a+1", "start 0 true = 0", "get a = 0", "steps = 0", "start 0 false = 1", "get a = 0",
                "steps = 0");
        Script.promise(16, "IndexOutOfBoundsException if there is none at all", "start 0 true = " + BEHIND, "start 0 false = " + BEHIND);
        Script.promise(16, "IndexOutOfBoundsException below 0", "say a+1", "start -1 true = " + BEHIND,
                "start -2147483648 false = " + BEHIND);
        Script.promise(16, "IndexOutOfBoundsException behind the last one", "say a+1", "start 1 true = " + BEHIND,
                "start 2147483647 false = " + BEHIND);
        Script.promise(16, "of 6 the last one can be begun, a seventh not", "say a+1", "say a+1", "say a+1", "say a+1", "say a+1",
                "say a+1;b+2;c+3", "start 5 false = 3", "inside = 5", "start 6 true = " + BEHIND, "inside = 5");
    }

    private static void startInPlaceOfAnother() {
        Script.promise(16, "in place of a run that could go on", "say a+1;b+1", "say c+1", "start 0 true = 0", "go 1 false = 1",
                "start 1 true = 0", "inside = 1", "place = 0", "go 9 false = 1", "get b = 0", "state = e");
        Script.promise(16, "in place of a run with open calls", "say @1", "say b+1;c+1", "start 0 true = 0", "go 2 false = 2", "depth = 1",
                "start 1 false = 2", "depth = 0", "go 9 false = 2", "state = e", "get c = -1", "get b = 0");
        Script.promise(16, "in place of a broken run", "say ?a", "start 0 true = 0", "go 1 false = 0", "state = b", "start 0 true = 0",
                "state = g", "why 0 = throws NoSuchElementException", "whyNumber 0 = throws NoSuchElementException");
        Script.promise(16, "in place of a run that was ended, by the same procedure", "say a+1", "start 0 true = 0", "go 1 false = 1",
                "state = e", "start 0 true = 0", "state = g", "go 1 false = 1", "get a = 2");
        Script.promise(16, "a call that was refused leaves the run", "say a+1;b+1", "start 0 false = 2", "go 1 false = 1",
                "start 1 true = " + BEHIND, "inside = 0", "place = 1", "isAhead = false", "state = g", "go 9 false = 1");
        Script.promise(16, "a call that was refused leaves a broken run", "say ?a", "start 0 true = 0", "go 1 false = 0",
                "start -1 true = " + BEHIND, "state = b", "why 0 = e");
    }

    private static void most() {
        Script.promise(17, "1 step at most is taken", "say a+1;b+1", "start 0 true = 0", "go 1 false = 1", "get a = 1", "get b = 0");
        Script.promise(17, "500 steps at most are taken", STEPS_501, "start 0 true = 0", "go 500 false = 500", "state = g",
                "get a = 166", "go 500 false = 1", "state = e");
        Script.promise(17, "0 is out of range", "say a+1", "start 0 true = 0", "go 0 false = " + BAD, "go 0 true = " + BAD);
        Script.promise(17, "-1 and less are out of range", "say a+1", "start 0 true = 0", "go -1 false = " + BAD,
                "go -2147483648 true = " + BAD);
        Script.promise(17, "501 and more are out of range", "say a+1", "start 0 true = 0", "go 501 false = " + BAD,
                "go 2147483647 true = " + BAD);
        Script.promise(17, "a number out of range turns no run", "say a+1;b+1", "start 0 true = 0", "go 1 false = 1",
                "go 0 true = " + BAD, "go 501 true = " + BAD, "isAhead = true", "place = 1", "go 9 false = 1", "get b = 1");
        Script.promise(17, "a number out of range mends no broken run", "say ?a", "start 0 true = 0", "go 1 false = 0",
                "go 0 false = " + BAD, "go 501 true = " + BAD, "state = b", "why 0 = e", "isAhead = true");
        Script.promise(17, "fewer steps than there are leave it between them", "say a+1;a+1;a+1", "start 0 true = 0", "go 2 false = 2",
                "state = g", "place = 2", "get a = 2");
        Script.promise(17, "just as many steps as there are end it", "say a+1;a+1;a+1", "start 0 true = 0", "go 3 false = 3",
                "state = e", "place = 3");
        Script.promise(17, "more steps than there are do just those", "say a+1;a+1;a+1", "start 0 true = 0", "go 4 false = 3",
                "state = e", "place = 3");
    }

    private static void goNone() {
        Script.promise(17, "IllegalStateException if none was begun", "go 1 false = " + NONE, "go 500 true = " + NONE);
        Script.promise(17, "a procedure alone is no run", "say a+1", "go 1 false = " + NONE);
        Script.promise(17, "a run as a whole was not begun", "say a+1", "run 0 true = 1", "go 1 false = " + NONE, "go 1 true = " + NONE);
        Script.promise(17, "a start that was refused begins none", "say a+1", "start 1 true = " + BEHIND, "go 1 false = " + NONE);
        Script.promise(17, "of both exceptions the one of the range, which is listed first", "go 0 false = " + BAD, "go 501 true = " + BAD,
                "go -1 true = " + BAD);
    }

    private static void goEnds() {
        Script.promise(17, "a run that is ended does 0 steps", "say a+1", "start 0 true = 0", "go 1 false = 1", "go 500 false = 0",
                "get a = 1", "state = e", "place = 1");
        Script.promise(17, "a run that is ended backward does 0 steps", "say a+1", "start 0 false = 1", "go 1 false = 1",
                "go 500 false = 0", "get a = -1", "state = e", "place = 0");
        Script.promise(17, "an empty procedure does 0 steps either way", "define = 0", "start 0 true = 0", "go 1 false = 0",
                "go 1 true = 0", "start 0 false = 0", "go 1 false = 0", "go 1 true = 0", "state = e");
        Script.promise(17, "a run turned at its beginning is at its end", "say a+1", "start 0 true = 0", "go 1 true = 0", "state = e",
                "isAhead = false", "get a = 0");
        Script.promise(17, "a run turned at its end goes all the way back", "say a+1;b+1", "start 0 true = 0", "go 9 false = 2",
                "go 9 true = 2", "state = e", "place = 0", "get a = 0", "get b = 0");
        Script.promise(17, "it ends at the end of the procedure with which it was begun, not of one that it calls", "say @1;a+1", "say b+1",
                "start 0 true = 0", "go 2 false = 2", "state = g", "inside = 0", "place = 1", "go 9 false = 1", "state = e");
    }

    private static void goBreaks() {
        Script.promise(17, "a step that breaks is none of those done", "say a+1;?a", "start 0 true = 0", "go 9 false = 1", "state = b",
                "steps = 1");
        Script.promise(17, "a step that breaks changes nothing", "say ?a", "set a 5", "start 0 true = 0", "go 1 false = 0", "get a = 5",
                "stacked = 0", "place = 0");
        Script.promise(17, "it breaks only at the step that cannot be done", "say a+1;?b", "start 0 true = 0", "go 1 false = 1",
                "state = g", "go 1 false = 0", "state = b");
        Script.promise(17, "a broken run that goes on breaks again", "say ?a", "start 0 true = 0", "go 1 false = 0", "go 1 false = 0",
                "state = b");
        Script.promise(17, "a broken run goes on when the step can be done", "say ?a;b+1", "set a 5", "say !c", "start 0 true = 0",
                "go 9 false = 0", "set c 8", "run 1 true = 1", "set a 0", "go 9 false = 2", "get a = 8", "get b = 1", "state = e");
        Script.promise(17, "a broken run can be turned", "say a+1;?b", "start 0 true = 0", "go 9 false = 1", "state = b", "go 9 true = 1",
                "state = e", "get a = 0");
        Script.promise(17, "a broken run turned at its beginning is at its end", "say ?b", "start 0 true = 0", "go 1 false = 0",
                "go 1 true = 0", "state = e");
    }

    private static void turns() {
        Script.promise(17, "not turned it goes on by its way", "say a+1;b+1;c+1", "start 0 false = 3", "go 1 false = 1", "go 1 false = 1",
                "get b = -1", "place = 1");
        Script.promise(17, "turned twice it goes as before", "say a+1;b+1;c+1", "start 0 true = 0", "go 2 false = 2", "go 1 true = 1",
                "go 1 true = 1", "place = 2", "isAhead = true", "get b = 1");
        Script.promise(17, "turning turns each call that is open", "say @1;a+1", "say $2;b+1", "say c+1;d+1", "start 0 true = 0",
                "go 3 false = 3", "depth = 2", "inside = 2", "isAhead = false", "place = 1", "get d = -1", "go 9 true = 1", "state = e",
                "inside = 0", "place = 0", "isAhead = false", "depth = 0", "get d = 0", "get b = 0", "get a = 0");
        Script.promise(17, "turned twice, all that are open go as before", "say @1;a+1", "say $2;b+1", "say c+1;d+1;e+1",
                "start 0 true = 0", "go 4 false = 4", "go 1 true = 1", "depth = 2", "go 9 true = 4", "state = e", "place = 2",
                "isAhead = true", "get a = 1", "get b = 1", "get c = -1", "get d = -1", "get e = -1");
        Script.promise(17, "turned where it came into a call it leaves it at once, without a step", "say a+1;@1;b+1", "say c+1",
                "start 0 true = 0", "go 2 false = 2", "depth = 1", "place = 0", "go 1 true = 1", "depth = 0", "place = 0", "get a = 0",
                "state = e");
        Script.promise(17, "turned where it came into the first call it ends with 0 steps", "say @1", "say c+1", "start 0 true = 0",
                "go 1 false = 1", "go 9 true = 0", "state = e", "place = 0", "depth = 0", "inside = 0", "steps = 1");
    }

    private static void callsDone() {
        Script.promise(17, "a call, done, goes into the procedure ahead, at its place 0", "say a+1;@1", "say b+1;c+1",
                "start 0 true = 0", "go 2 false = 2", "inside = 1", "place = 0", "isAhead = true", "go 1 false = 1", "get b = 1", "get c = 0");
        Script.promise(17, "an uncall, done, goes into it back, at its last place", "say a+1;$1", "say b+1;c+1", "start 0 true = 0",
                "go 2 false = 2", "inside = 1", "place = 2", "isAhead = false", "go 1 false = 1", "get b = 0", "get c = -1");
        Script.promise(17, "from a call it comes back behind it, if it went there ahead", "say a+1;@1;a+1", "say b+1", "start 0 true = 0",
                "go 3 false = 3", "inside = 0", "place = 2", "isAhead = true", "go 1 false = 1", "get a = 2");
        Script.promise(17, "from an uncall it comes back behind it, if it went there ahead", "say a+1;$1;a+1", "say b+1",
                "start 0 true = 0", "go 3 false = 3", "inside = 0", "place = 2", "isAhead = true", "go 1 false = 1", "get a = 2",
                "get b = -1");
        Script.promise(17, "the end of the procedure counts, whichever way it is reached", "say $1;a+1", "say b+1;c+1", "start 0 true = 0",
                "go 2 false = 2", "inside = 1", "place = 1", "go 1 false = 1", "inside = 0", "place = 1");
    }

    private static void callsUndone() {
        Script.promise(17, "a call, undone, goes into the procedure back, at its last place", "say a+1;@1;a+1", "say b+1;c+1",
                "start 0 false = 3", "go 2 false = 2", "inside = 1", "place = 2", "isAhead = false", "go 1 false = 1", "get b = 0",
                "get c = -1");
        Script.promise(17, "an uncall, undone, goes into it ahead, at its place 0", "say a+1;$1;a+1", "say b+1;c+1", "start 0 false = 3",
                "go 2 false = 2", "inside = 1", "place = 0", "isAhead = true", "go 1 false = 1", "get b = 1", "get c = 0");
        Script.promise(17, "from a call that was undone it comes back ahead of it", "say a+1;@1;a+1", "say b+1", "start 0 false = 3",
                "go 3 false = 3", "inside = 0", "place = 1", "isAhead = false", "go 1 false = 1", "place = 0", "get a = -2");
        Script.promise(17, "from an uncall that was undone it comes back ahead of it", "say a+1;$1;a+1", "say b+1", "start 0 false = 3",
                "go 3 false = 3", "inside = 0", "place = 1", "isAhead = false", "go 1 false = 1", "get a = -2", "get b = 1");
        Script.promise(17, "a call within an uncall is undone", "say $1", "say @2;a+1", "say b+1", "start 0 true = 0", "go 9 false = 4",
                "state = e", "isAhead = true", "place = 1", "get a = -1", "get b = -1");
        Script.promise(17, "an uncall within an uncall goes ahead", "say $1", "say $2;a+1", "say b+1;c+1", "start 0 true = 0",
                "go 3 false = 3", "inside = 2", "place = 0", "isAhead = true", "depth = 2", "go 9 false = 2", "state = e",
                "get a = -1", "get b = 1", "get c = 1");
    }

    private static void comesBackAtOnce() {
        Script.promise(17, "to come back is no step of its own", "say @1", "say a+1", "start 0 true = 0", "go 9 false = 2", "state = e",
                "steps = 2");
        Script.promise(17, "to come back is done at once, behind a step", "say @1;b+1", "say a+1", "start 0 true = 0", "go 2 false = 2",
                "inside = 0", "place = 1", "depth = 0");
        Script.promise(17, "behind a call of an empty procedure, too", "say @1;b+1", "define = 1", "start 0 true = 0", "go 1 false = 1",
                "inside = 0", "place = 1", "depth = 0", "go 9 false = 1", "steps = 2");
        Script.promise(17, "behind a step that leaves a choice", "say @1", "say [a=0:|:a=0]", "start 0 true = 0", "go 3 false = 3",
                "inside = 0", "state = e");
        Script.promise(17, "through several that are at their ends", "say @1", "say @2", "say @3", "say @4", "say @5", "say a+1",
                "start 0 true = 0", "go 5 false = 5", "depth = 5", "go 1 false = 1", "depth = 0", "inside = 0", "place = 1", "state = e");
        Script.promise(17, "not farther than one that is not at its end", "say @1", "say @2;b+1", "say @3", "say a+1", "start 0 true = 0",
                "go 4 false = 4", "depth = 1", "inside = 1", "place = 1", "state = g");
        Script.promise(17, "as many steps as were asked for, and it comes back behind the last one", "say a+1;@1;@1;@1", "say b+1",
                "start 0 true = 0", "go 3 false = 3", "depth = 0", "place = 2", "go 4 false = 4", "place = 4", "state = e");
        Script.promise(17, "as a run that was turned goes on, through all 20", "say @0", "start 0 true = 0", "go 500 false = 20",
                "go 500 true = 0", "state = e", "depth = 0", "place = 0", "isAhead = false", "steps = 20");
        Script.promise(17, "as a run that was turned there goes on, then the step ahead of the call", "say a+1;@1", "say b+1",
                "start 0 true = 0", "go 2 false = 2", "go 1 true = 1", "place = 0", "get a = 0", "inside = 0");
        Script.promise(17, "a run begun at the end of an empty procedure is at its own end, and comes nowhere", "define = 0", "say @0",
                "start 0 false = 0", "go 9 false = 0", "state = e", "depth = 0", "place = 0");
    }

    private static void state() {
        Script.promise(18, "'-' none was begun", "state = -");
        Script.promise(18, "'-' though there are procedures", "say a+1", "state = -");
        Script.promise(18, "'-' though one ran as a whole", "say a+1", "run 0 true = 1", "state = -");
        Script.promise(18, "'-' though a start was refused", "start 0 true = " + BEHIND, "state = -");
        Script.promise(18, "'g' as it begins, either way", "say a+1", "start 0 true = 0", "state = g", "start 0 false = 1", "state = g");
        Script.promise(18, "'g' ahead of a step that will break", "say ?a", "start 0 true = 0", "state = g");
        Script.promise(18, "'g' one step ahead of the end", "say a+1;b+1", "start 0 true = 0", "go 1 false = 1", "state = g");
        Script.promise(18, "'e' at its end ahead", "say a+1", "start 0 true = 0", "go 1 false = 1", "state = e");
        Script.promise(18, "'e' at its end back", "say a+1", "start 0 false = 1", "go 1 false = 1", "state = e");
        Script.promise(18, "'e' of an empty procedure as it begins, either way", "define = 0", "start 0 true = 0", "state = e",
                "start 0 false = 0", "state = e");
        Script.promise(18, "its end by the way it goes: back, the last place is none", "say a+1", "start 0 false = 1", "place = 1",
                "state = g");
        Script.promise(18, "its end by the way it goes: ahead, the first place is none", "say a+1", "start 0 true = 0", "place = 0",
                "state = g");
        Script.promise(18, "'g' at the first place of a procedure that is called backward to it", "say b+1;$1", "say a+1",
                "start 0 true = 0", "go 2 false = 2", "place = 1", "inside = 1", "state = g");
        Script.promise(18, "'b' when a step could not be done", "say ?a", "start 0 true = 0", "go 1 false = 0", "state = b");
        Script.promise(18, "'b' behind steps that were done", "say a+1;?a", "start 0 true = 0", "go 9 false = 1", "state = b");
        Script.promise(18, "not 'b' when it is stopped ahead of that step", "say a+1;?a", "start 0 true = 0", "go 1 false = 1",
                "state = g");
        Script.promise(18, "a broken run is so until it goes on", "say ?a", "start 0 true = 0", "go 1 false = 0", "get a = 0", "set b 4",
                "say a+1", "run 1 true = 1", "erase a = 1", "state = b", "place = 0", "state = b");
        Script.promise(18, "a broken run that went on is not so", "say ?a;b+1", "start 0 true = 0", "go 1 false = 0", "say !c",
                "run 1 true = 1", "go 1 false = 1", "state = g");
        Script.promise(18, "a broken run that was turned is not so", "say b+1;c+1;?a", "start 0 true = 0", "go 9 false = 2", "go 1 true = 1",
                "state = g");
    }

    private static void noneBegun() {
        Script.promise(19, "IllegalStateException if none was begun", "place = " + NONE, "say a+1", "run 0 true = 1", "place = " + NONE,
                "start 1 true = " + BEHIND, "place = " + NONE);
        Script.promise(20, "IllegalStateException if none was begun", "inside = " + NONE, "say a+1", "run 0 true = 1", "inside = " + NONE,
                "start 1 true = " + BEHIND, "inside = " + NONE);
        Script.promise(21, "IllegalStateException if none was begun", "depth = " + NONE, "say a+1", "run 0 true = 1", "depth = " + NONE,
                "start 1 true = " + BEHIND, "depth = " + NONE);
        Script.promise(22, "IllegalStateException if none was begun", "isAhead = " + NONE, "say a+1", "run 0 true = 1",
                "isAhead = " + NONE, "start 1 true = " + BEHIND, "isAhead = " + NONE);
    }

    private static void place() {
        Script.promise(19, "0 ahead of the first instruction", "say a+1;b+1", "start 0 true = 0", "place = 0");
        Script.promise(19, "the number of instructions behind the last one", "say a+1;b+1", "start 0 true = 0", "go 9 false = 2",
                "place = 2");
        Script.promise(19, "between instructions it is the number of those behind it", "say a+1;b+1;c+1", "start 0 true = 0",
                "go 1 false = 1", "place = 1", "go 1 false = 1", "place = 2", "go 1 true = 1", "place = 1");
        Script.promise(19, "0 as it ends back", "say a+1;b+1", "start 0 false = 2", "go 9 false = 2", "place = 0");
        Script.promise(19, "a broken run is ahead of what it could not do", "say a+1;?b;c+1", "start 0 true = 0", "go 9 false = 1",
                "place = 1");
        Script.promise(19, "a run that broke going back is behind what it could not undo", "say a+1;!b;c+1", "start 0 false = 3",
                "go 9 false = 1", "place = 2");
        Script.promise(19, "it is a place in the procedure in which it is", "say a+1;a+1;@1", "say b+1;b+1", "start 0 true = 0",
                "go 3 false = 3", "place = 0", "go 1 false = 1", "place = 1");
        Script.promise(19, "0 of an empty procedure", "define = 0", "start 0 false = 0", "place = 0");
    }

    private static void inside() {
        Script.promise(20, "the procedure with which it was begun", "say a+1", "say b+1", "start 0 true = 0", "inside = 0",
                "start 1 true = 0", "inside = 1");
        Script.promise(20, "the procedure that is called, as soon as it is called", "say @1", "say b+1", "start 0 true = 0",
                "go 1 false = 1", "inside = 1");
        Script.promise(20, "the one that called, as soon as the call is left", "say @1", "say b+1", "start 0 true = 0", "go 2 false = 2",
                "inside = 0");
        Script.promise(20, "the last of 6", "say @5", "say a+1", "say a+1", "say a+1", "say a+1", "say a+1", "start 0 true = 0",
                "go 1 false = 1", "inside = 5");
        Script.promise(20, "an empty procedure is left as soon as it is called", "say @1;a+1", "define = 1", "start 0 true = 0",
                "go 1 false = 1", "inside = 0");
        Script.promise(20, "where a run broke within a call", "say @1", "say ?a", "start 0 true = 0", "go 9 false = 1", "state = b",
                "inside = 1");
        Script.promise(20, "a whole run of another one does not move it", "say a+1", "say b+1", "start 0 true = 0", "run 1 true = 1",
                "inside = 0");
    }

    private static void isAhead() {
        Script.promise(22, "true of a run begun forward", "say a+1", "start 0 true = 0", "isAhead = true");
        Script.promise(22, "false of a run begun backward", "say a+1", "start 0 false = 1", "isAhead = false");
        Script.promise(22, "false when it was turned round, though no step was done", "say a+1", "start 0 true = 0", "go 1 true = 0",
                "isAhead = false");
        Script.promise(22, "false within an uncall", "say $1", "say a+1", "start 0 true = 0", "go 1 false = 1", "isAhead = false");
        Script.promise(22, "true again behind the uncall", "say $1", "say a+1", "start 0 true = 0", "go 2 false = 2", "depth = 0",
                "isAhead = true");
        Script.promise(22, "an empty procedure has both ways", "define = 0", "start 0 true = 0", "isAhead = true", "start 0 false = 0",
                "isAhead = false", "go 1 true = 0", "isAhead = true");
        Script.promise(22, "a broken run keeps its way", "say !a", "set a 1", "start 0 false = 1", "go 1 false = 0", "state = b",
                "isAhead = false");
        Script.promise(22, "true again when it was turned twice", "say a+1", "start 0 true = 0", "go 1 true = 0", "go 1 true = 1",
                "isAhead = true");
    }

    private static void depth() {
        Script.promise(21, "0 as it begins", "say @0", "start 0 true = 0", "depth = 0");
        Script.promise(21, "1 within a call", "say @1", "say a+1", "start 0 true = 0", "go 1 false = 1", "depth = 1");
        Script.promise(21, "0 again behind it", "say @1", "say a+1", "start 0 true = 0", "go 2 false = 2", "depth = 0");
        Script.promise(21, "0 behind the call of an empty procedure", "say @1;a+1", "define = 1", "start 0 true = 0", "go 1 false = 1",
                "depth = 0", "place = 1");
        Script.promise(21, "20 can be open", "say @0", "start 0 true = 0", "go 20 false = 20", "depth = 20", "state = g", "place = 0",
                "steps = 20");
        Script.promise(21, "at most 20, the next one breaks the run", "say @0", "start 0 true = 0", "go 21 false = 20", "depth = 20",
                "state = b", "why 0 = d", "whyNumber 0 = 20", "why 1 = throws NoSuchElementException");
        Script.promise(21, "20 uncalls can be open, and no more", "say $0;a+1", "say $0", "start 1 true = 0", "go 1 false = 1",
                "isAhead = false", "place = 2", "start 0 true = 0", "go 1 false = 1", "depth = 1", "go 1 false = 1", "depth = 1",
                "go 1 false = 1", "depth = 2", "go 500 false = 27", "depth = 20", "why 0 = d");
        Script.promise(21, "a run within 20 calls goes on, and leaves all of them", "say [b=20:c+1|b+1;@0;c+1:c=1]", "start 0 true = 0",
                "go 60 false = 60", "depth = 20", "state = g", "go 500 false = 43", "state = e", "depth = 0", "set c 0", "set b -1",
                "start 0 true = 0", "go 500 false = 62", "state = b", "depth = 20", "why 0 = d");
        Script.promise(21, "calls that were left leave room for others", "say @1;@1;@1;@1;@1;@1;@1;@1;@1;@1;@1;@1;@1;@1;@1;@1;@1;@1;@1;@1",
                "say @2;@2", "say a+1", "start 0 true = 0", "go 100 false = 100", "state = e", "get a = 40", "depth = 0");
        Script.promise(21, "a run broken by a 21st call can be turned, and goes back through all 20", "say @0", "start 0 true = 0",
                "go 500 false = 20", "go 500 true = 0", "state = e", "depth = 0", "place = 0", "isAhead = false", "steps = 20");
        Script.promise(21, "open calls are those of the run that was begun", "say @1", "say a+1", "start 0 true = 0", "go 1 false = 1",
                "run 0 true = 2", "depth = 1", "image 0 b 0 = 0", "depth = 1");
    }
}
