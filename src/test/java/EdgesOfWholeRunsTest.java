/** The boundary cases of promises 25 and 27, a test for each sentence: procedures run as a whole, and the count of steps. */
public final class EdgesOfWholeRunsTest {
    private static final String BEHIND = "throws IndexOutOfBoundsException";
    private static final String REFUSED = "throws UnsupportedOperationException";
    /** 166 rounds of 3 steps each: 498. */
    private static final String LOOP = "{a=0:a+1|:a=166}";

    public static void main(String[] args) {
        noSuchProcedure();
        shortest();
        longest();
        withoutEnd();
        broken();
        asBefore();
        begunRunStays();
        stepsOfRuns();
        stepsAside();
        manySteps();
        Script.allPromised(25, 25);
        Script.allPromised(27, 27);
        Script.end("EdgesOfWholeRunsTest");
    }

    private static void noSuchProcedure() {
        Script.promise(25, "IndexOutOfBoundsException if there is none at all", "run 0 true = " + BEHIND, "run 0 false = " + BEHIND);
        Script.promise(25, "IndexOutOfBoundsException below 0", "say a+1", "run -1 true = " + BEHIND, "run -2147483648 false = " + BEHIND);
        Script.promise(25, "IndexOutOfBoundsException behind the last one", "say a+1", "run 1 true = " + BEHIND,
                "run 2147483647 false = " + BEHIND);
        Script.promise(25, "of 6 the last one runs, and a seventh does not", "say a+1", "say a+1", "say a+1", "say a+1", "say a+1", "say b+7",
                "run 5 true = 1", "get b = 7", "run 6 true = " + BEHIND);
    }

    private static void shortest() {
        Script.promise(25, "an empty procedure takes 0 steps, either way", "define = 0", "run 0 true = 0", "run 0 false = 0", "steps = 0");
        Script.promise(25, "one statement takes 1 step, either way", "say a+1", "run 0 true = 1", "get a = 1", "run 0 false = 1",
                "get a = 0");
        Script.promise(25, "backward it goes from its end", "say a+1;b+a", "run 0 false = 2", "get b = 0", "get a = -1");
        Script.promise(25, "a call is a step, and to come back is none", "say @1", "say a+1", "run 0 true = 2", "run 0 false = 2");
        Script.promise(25, "the call of an empty procedure is 1 step", "say @1", "define = 1", "run 0 true = 1", "run 0 false = 1");
        Script.promise(25, "with 20 calls open it comes to its end, with 21 it breaks", "say [b=20:c+1|b+1;@0;c+1:c=1]",
                "run 0 true = 103", "get b = 20", "get c = 21", "set b -1", "set c 0", "run 0 true = " + REFUSED, "get b = -1",
                "get c = 0", "set b 0", "run 0 true = 103");
    }

    private static void longest() {
        Script.promise(25, "500 steps are done, forward", "say b+1;c+1;" + LOOP, "run 0 true = 500", "get a = 166", "get b = 1");
        Script.promise(25, "500 steps are done, backward", "say b+1;c+1;" + LOOP, "set a 166", "run 0 false = 500", "get a = 0",
                "get b = -1");
        Script.promise(25, "499 steps are done", "say b+1;" + LOOP, "run 0 true = 499", "get a = 166");
        Script.promise(25, "501 steps are refused, forward", "say b+1;c+1;d+1;" + LOOP, "run 0 true = " + REFUSED);
        Script.promise(25, "501 steps are refused, backward", "say b+1;c+1;d+1;" + LOOP, "set a 166", "run 0 false = " + REFUSED);
        Script.promise(25, "500 steps end it if the last one comes back from all calls", "say " + LOOP, "say @2", "define = 2",
                "say @0;@2", "say @0;@1", "run 3 true = 500", "get a = 166", "set a 0", "run 4 true = " + REFUSED, "steps = 500",
                "start 4 true = 0", "go 500 false = 500", "state = g", "go 1 false = 1", "state = e");
    }

    private static void withoutEnd() {
        String loop = "say {a=0:a+1|b+1:c=1}";
        Script.promise(25, "UnsupportedOperationException if it does not end", loop, "run 0 true = " + REFUSED);
        Script.promise(25, "if it does not end, all is as before", loop, "set b 7", "run 0 true = " + REFUSED, "get a = 0", "get b = 7",
                "steps = 0", "stacked = 0");
        Script.promise(25, "if it would end by some more steps, all is as before", "say b+1;c+1;d+1;" + LOOP, "set d 5",
                "run 0 true = " + REFUSED, "get a = 0", "get b = 0", "get c = 0", "get d = 5", "steps = 0");
    }

    private static void broken() {
        Script.promise(25, "UnsupportedOperationException if a test breaks it", "say [a=0:|:a=1]", "run 0 true = " + REFUSED,
                "run 0 false = " + REFUSED);
        Script.promise(25, "UnsupportedOperationException if a variable that is not 0 breaks it", "say !b", "say ?a", "run 0 true = 1",
                "set a 1", "run 1 true = " + REFUSED);
        Script.promise(25, "UnsupportedOperationException if the empty stack breaks it", "say ?a", "run 0 true = " + REFUSED);
        Script.promise(25, "UnsupportedOperationException if the full stack breaks it", "say !a;!a;!a;!a;!a;!a;!a;!a;!a;!a", "say !a",
                "run 0 true = 10", "run 0 true = 10", "run 1 true = " + REFUSED);
        Script.promise(25, "UnsupportedOperationException if a procedure is missing", "say @1", "run 0 true = " + REFUSED);
        Script.promise(25, "UnsupportedOperationException if a 21st call breaks it", "say @0", "run 0 true = " + REFUSED);
        Script.promise(25, "if it breaks at the last step, too", "say a+1;?b", "run 0 true = " + REFUSED, "get a = 0");
        Script.promise(25, "of both exceptions the one of the number, which is listed first", "say ?a", "run 1 true = " + BEHIND);
        Script.promise(25, "if it is mended it runs", "say @1", "run 0 true = " + REFUSED, "say a+1", "run 0 true = 2", "get a = 1");
    }

    private static void asBefore() {
        Script.promise(25, "if it breaks, the variables are as before", "say a+1;b~c;d^9;?e", "set b 3", "set c 4",
                "run 0 true = " + REFUSED, "get a = 0", "get b = 3", "get c = 4", "get d = 0");
        Script.promise(25, "if it breaks, what it put onto the stack is not there", "say !a;!b;?c;?c", "set a 5", "set b 6",
                "run 0 true = " + REFUSED, "stacked = 0", "get a = 5", "get b = 6");
        Script.promise(25, "if it breaks, what it took from the stack is there", "say !a", "say ?b;!c;?b", "set a 5", "run 0 true = 1",
                "set a 6", "run 0 true = 1", "run 1 true = " + REFUSED, "stacked = 2", "stackAt 0 = 6", "stackAt 1 = 5", "get b = 0");
        Script.promise(25, "if it breaks, none was begun", "say ?a", "run 0 true = " + REFUSED, "state = -",
                "why 0 = throws NoSuchElementException");
        Script.promise(25, "if it breaks, the next one runs as if it were the first one", "say @1", "say ?a", "say b+1", "run 0 true = " + REFUSED,
                "run 2 true = 1", "get b = 1", "steps = 1");
        Script.promise(25, "a run that was done stays done when a later one is refused", "say a+1", "say a+1;?b", "run 0 true = 1",
                "run 1 true = " + REFUSED, "get a = 1", "steps = 1");
    }

    private static void begunRunStays() {
        Script.promise(25, "a run that was begun stays where it is", "say a+1;b+1;c+1", "say @0;d+1", "start 0 true = 0", "go 1 false = 1",
                "run 1 true = 5", "state = g", "place = 1", "inside = 0", "depth = 0", "isAhead = true", "go 9 false = 2", "state = e");
        Script.promise(25, "a run that was begun stays within its calls", "say @1;a+1", "say b+1;c+1", "start 0 true = 0", "go 2 false = 2",
                "run 0 false = 4", "depth = 1", "inside = 1", "place = 1", "isAhead = true", "go 9 false = 2", "state = e");
        Script.promise(25, "a broken run that was begun stays broken", "say a+1;?b", "say c+1", "start 0 true = 0", "go 9 false = 1",
                "run 1 true = 1", "state = b", "why 0 = e", "whyNumber 0 = 1", "place = 1");
        Script.promise(25, "a run that was begun and ended stays ended", "say a+1", "start 0 true = 0", "go 9 false = 1", "run 0 true = 1",
                "run 0 false = 1", "state = e", "isAhead = true", "place = 1");
        Script.promise(25, "a run that was begun stays when the whole one breaks", "say a+1;b+1", "say ?c", "start 0 true = 0",
                "go 1 false = 1", "run 1 true = " + REFUSED, "state = g", "place = 1", "inside = 0",
                "why 0 = throws NoSuchElementException");
        Script.promise(25, "a run that was begun goes on with what the whole one left", "say a+1;b+a", "say a+9", "start 0 true = 0",
                "go 1 false = 1", "run 1 true = 1", "go 1 false = 1", "get b = 10");
        Script.promise(25, "20 open calls of the run that was begun leave 20 for the whole one", "say @0", "say @2", "say a+1",
                "start 0 true = 0", "go 20 false = 20", "run 1 true = 2", "get a = 1", "depth = 20");
    }

    private static void stepsOfRuns() {
        Script.promise(27, "0 at first", "steps = 0");
        Script.promise(27, "steps of runs that were begun count", "say a+1;b+1;c+1", "start 0 true = 0", "go 1 false = 1", "steps = 1",
                "go 9 false = 2", "steps = 3");
        Script.promise(27, "steps of whole runs count", "say a+1;b+1;c+1", "run 0 true = 3", "steps = 3", "run 0 false = 3", "steps = 6");
        Script.promise(27, "both together", "say a+1;b+1;c+1", "start 0 true = 0", "go 1 false = 1", "run 0 true = 3", "go 9 false = 2",
                "steps = 6");
        Script.promise(27, "undone steps are steps, too", "say a+1;b+1", "start 0 true = 0", "go 2 false = 2", "go 2 true = 2", "steps = 4",
                "start 0 false = 2", "go 1 false = 1", "steps = 5");
        Script.promise(27, "a step that breaks is none", "say a+1;?b", "start 0 true = 0", "go 9 false = 1", "steps = 1", "go 9 false = 0",
                "steps = 1");
        Script.promise(27, "to come back is none", "say @1", "say a+1", "start 0 true = 0", "go 9 false = 2", "steps = 2");
        Script.promise(27, "an ended run has none more", "say a+1", "start 0 true = 0", "go 9 false = 1", "go 9 false = 0", "steps = 1");
        Script.promise(27, "those of a run in whose place another was begun stay", "say a+1;b+1", "start 0 true = 0", "go 1 false = 1",
                "start 0 true = 0", "steps = 1", "go 9 false = 2", "steps = 3");
        Script.promise(27, "500 a call", "say b+1;c+1;" + LOOP, "run 0 true = 500", "run 0 false = 500", "run 0 true = 500",
                "run 0 false = 500", "start 0 true = 0", "go 500 false = 500", "go 500 true = 500", "steps = 3000");
    }

    private static void stepsAside() {
        Script.promise(27, "those of runs that were refused for breaking aside", "say a+1;b+1;?c", "run 0 true = " + REFUSED, "steps = 0");
        Script.promise(27, "those of runs that were refused for their length aside", "say b+1;c+1;d+1;" + LOOP,
                "run 0 true = " + REFUSED, "steps = 0");
        Script.promise(27, "those of runs ahead of one that was refused stay", "say a+1", "say a+1;?c", "run 0 true = 1",
                "run 1 true = " + REFUSED, "steps = 1");
        Script.promise(27, "those of an image aside", "say a+1", "image 0 a 3 = 4", "image 0 a 3 = 4", "steps = 0");
        Script.promise(27, "those of an image that was refused aside", "say a+1;?b", "image 0 a 3 = throws NoSuchElementException",
                "steps = 0");
        Script.promise(27, "those of works aside", "say a+1", "works 0 a = 16", "steps = 0");
        Script.promise(27, "those of alike aside", "say a+1", "alike 0 a = 1", "steps = 0");
        Script.promise(27, "start, set and erase are no steps", "say a+1", "start 0 true = 0", "set a 3", "erase a = 2", "start 0 false = 1",
                "steps = 0");
    }

    /** Some lines, and behind them these ones in turn until it is so many in all. */
    private static String[] upTo(int count, String[] lines, String... others) {
        String[] all = new String[count];
        for (int i = 0; i < count; i++) {
            all[i] = i < lines.length ? lines[i] : others[(i - lines.length) % others.length];
        }
        return all;
    }

    private static void manySteps() {
        String[] goes = upTo(480, new String[] {"say {a=0:a+1|b+1:c=1}", "start 0 true = 0"}, "go 500 false = 500");
        goes[479] = "steps = 238500";
        Script.promise(27, "steps that went on are counted as long as the object is used", goes);
        String[] runs = upTo(482, new String[] {"say b+1;c+1;" + LOOP}, "run 0 true = 500", "run 0 false = 500");
        runs[481] = "steps = 240000";
        Script.promise(27, "steps of whole runs are counted as long as the object is used", runs);
    }
}
