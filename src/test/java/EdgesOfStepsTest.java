/** The boundary cases of what single steps do, promise 17, a test for each sentence of the terms. */
public final class EdgesOfStepsTest {
    public static void main(String[] args) {
        updatesGoRound();
        sumsGoRound();
        terms();
        swapsAndStack();
        testsAtSameValues();
        testsFarApart();
        choiceAhead();
        choiceBack();
        loopAhead();
        loopBack();
        emptyRows();
        Script.allPromised(17, 17);
        Script.end("EdgesOfStepsTest");
    }

    /** One update of a, with b and c, done once and undone twice. */
    private static void update(String sentence, String text, int a, int b, int c, int done, int undone) {
        Script.promise(17, sentence, "say " + text, "set a " + a, "set b " + b, "set c " + c, "start 0 true = 0", "go 1 false = 1",
                "get a = " + done, "get b = " + b, "get c = " + c, "go 1 true = 1", "get a = " + a, "start 0 false = 1", "go 1 false = 1",
                "get a = " + undone, "get b = " + b, "get c = " + c);
    }

    private static void updatesGoRound() {
        update("+ goes round above the greatest int", "a+1", 2147483647, 0, 0, -2147483648, 2147483646);
        update("+ goes round below the least int, undone", "a+1", -2147483648, 0, 0, -2147483647, 2147483647);
        update("- goes round below the least int", "a-1", -2147483648, 0, 0, 2147483647, -2147483647);
        update("- goes round above the greatest int, undone", "a-1", 2147483647, 0, 0, 2147483646, -2147483648);
        update("the least int added to itself is 0", "a+b", -2147483648, -2147483648, 0, 0, 0);
        update("the least int taken away from 0 is itself", "a-b", 0, -2147483648, 0, -2147483648, -2147483648);
        update("^ has all 32 bits", "a^b", -1, 2147483647, 0, -2147483648, -2147483648);
        update("^ of a variable with the same value is 0", "a^b", -5, -5, 0, 0, 0);
        update("0 is added", "a+0", 7, 0, 0, 7, 7);
    }

    private static void sumsGoRound() {
        update("a sum goes round above the greatest int", "a+b+c", 0, 2147483647, 1, -2147483648, -2147483648);
        update("a difference goes round below the least int", "a+b-c", 0, -2147483648, 1, 2147483647, -2147483647);
        update("a product goes round: its last 32 bits", "a+b*c", 0, 65536, 65536, 0, 0);
        update("a product goes round to below 0", "a+b*c", 0, 65536, 32768, -2147483648, -2147483648);
        update("the least int times -1 is itself", "a+b*c", 0, -2147483648, -1, -2147483648, -2147483648);
        update("& of ints below 0", "a+b&c", 0, -1, -2147483648, -2147483648, -2147483648);
        update("a sum is looked at ahead of the update's sign", "a-b+c", 0, 5, 3, -8, 8);
        update("a difference that is taken away", "a-b-c", 0, 5, 3, -2, 2);
        update("^ with a sum", "a^b+c", 6, 5, 3, 14, 14);
        update("both terms can be the same variable", "a+b*b", 1, -7, 0, 50, -48);
    }

    private static void terms() {
        update("a number of 1 digit", "a+9", 0, 0, 0, 9, -9);
        update("a number of 2 digits", "a+10", 0, 0, 0, 10, -10);
        update("a number of 3 digits, the greatest", "a+999", 0, 0, 0, 999, -999);
        update("zeros ahead do not count", "a+010", 0, 0, 0, 10, -10);
        update("a number of zeros is 0", "a+000", 3, 0, 0, 3, 3);
        update("two numbers", "a+999*999", 0, 0, 0, 998001, -998001);
        update("a number minus a greater one", "a+0-999", 0, 0, 0, -999, 999);
        Script.promise(17, "terms are variables from a to h", "say b+a;a+h;c^g", "set a 3", "set h 4", "set g 9", "run 0 true = 3",
                "get b = 3", "get a = 7", "get c = 9", "get h = 4", "get g = 9");
    }

    private static void swapsAndStack() {
        Script.promise(17, "the first and the last variable are swapped", "say a~h", "set a 2147483647", "set h -2147483648",
                "start 0 true = 0", "go 1 false = 1", "get a = -2147483648", "get h = 2147483647", "go 1 true = 1", "get a = 2147483647",
                "get h = -2147483648");
        Script.promise(17, "! puts a variable that is 0, too", "say !a", "run 0 true = 1", "stacked = 1", "stackAt 0 = 0");
        Script.promise(17, "! makes the variable 0", "say !a", "set a 7", "run 0 true = 1", "get a = 0", "stackAt 0 = 7");
        Script.promise(17, "? takes the last one", "say !a;b~a;!a", "say ?c", "set a 7", "set b 8", "run 0 true = 3", "run 1 true = 1",
                "get c = 8", "stacked = 1", "stackAt 0 = 7");
        Script.promise(17, "? takes the only one, and the stack is empty", "say !a", "say ?c", "set a 7", "run 0 true = 1", "run 1 true = 1",
                "get c = 7", "stacked = 0");
        Script.promise(17, "! undone takes the last one", "say !a", "set a 7", "run 0 true = 1", "start 0 false = 1", "go 1 false = 1",
                "get a = 7", "stacked = 0");
        Script.promise(17, "? undone puts the variable, which becomes 0", "say ?a", "set a 7", "start 0 false = 1", "go 1 false = 1",
                "get a = 0", "stacked = 1", "stackAt 0 = 7");
        Script.promise(17, "the 20th value is put", "say !a;!a;!a;!a;!a;!a;!a;!a;!a;!a;!a;!a;!a;!a;!a;!a;!a;!a;!a", "say !b", "set b 5",
                "run 0 true = 19", "run 1 true = 1", "stacked = 20", "stackAt 0 = 5");
        Script.promise(17, "the 20th value is put by undoing, too", "say !a;!a;!a;!a;!a;!a;!a;!a;!a;!a;!a;!a;!a;!a;!a;!a;!a;!a;!a", "say ?b",
                "set b 5", "run 0 true = 19", "run 1 false = 1", "stacked = 20", "stackAt 0 = 5", "get b = 0");
        Script.promise(17, "one of 20 is taken", "say !a;!a;!a;!a;!a;!a;!a;!a;!a;!a;!a;!a;!a;!a;!a;!a;!a;!a;!a;!a", "say ?b", "set a 5",
                "run 0 true = 20", "run 1 true = 1", "stacked = 19", "get b = 0");
    }

    /** Whether a test of the two variables holds, told by the row that a choice takes. */
    private static void test(String sentence, char sign, int a, int b, boolean isHeld) {
        Script.promise(17, sentence, "say [a" + sign + "b:c+1|c+2:c=1]", "set a " + a, "set b " + b, "start 0 true = 0", "go 2 false = 2",
                "get c = " + (isHeld ? 1 : 2), "go 1 false = 1", "place = 5", "state = e", "get a = " + a, "get b = " + b);
    }

    private static void testsAtSameValues() {
        test("< does not hold for the same values", '<', 5, 5, false);
        test("< holds for 1 less", '<', 4, 5, true);
        test("< does not hold for 1 more", '<', 6, 5, false);
        test("= holds for the same values", '=', 5, 5, true);
        test("= does not hold for 1 less", '=', 4, 5, false);
        test("= does not hold for 1 more", '=', 6, 5, false);
        test("> does not hold for the same values", '>', 5, 5, false);
        test("> does not hold for 1 less", '>', 4, 5, false);
        test("> holds for 1 more", '>', 6, 5, true);
    }

    private static void testsFarApart() {
        test("the least int < the greatest", '<', -2147483648, 2147483647, true);
        test("the greatest int is not < the least", '<', 2147483647, -2147483648, false);
        test("the greatest int > the least", '>', 2147483647, -2147483648, true);
        test("the least int is not > the greatest", '>', -2147483648, 2147483647, false);
        test("ints below 0 are less than 0", '<', -1, 0, true);
        test("0 is more than ints below 0", '>', 0, -1, true);
        test("the least int is not = 0", '=', -2147483648, 0, false);
        test("= looks at all bits", '=', 256, 0, false);
    }

    private static void choiceAhead() {
        String choice = "say [a=0:b+1|c+1:d=0];e+1";
        Script.promise(17, "'[' goes to the first row, if C holds", choice, "start 0 true = 0", "go 1 false = 1", "place = 1");
        Script.promise(17, "'[' goes behind '|', if C does not hold", choice, "set a 1", "start 0 true = 0", "go 1 false = 1", "place = 3");
        Script.promise(17, "'[' does not look at D", choice, "set d 1", "start 0 true = 0", "go 1 false = 1", "place = 1");
        Script.promise(17, "'|' behind the first row goes behind ']', if D holds", choice, "start 0 true = 0", "go 3 false = 3", "place = 5");
        Script.promise(17, "'|' behind the first row breaks, if D does not hold", choice, "set d 1", "start 0 true = 0", "go 3 false = 2",
                "place = 2", "state = b");
        Script.promise(17, "'|' ahead does not look at C", "say [a=0:a+1|c+1:d=0]", "start 0 true = 0", "go 3 false = 3", "place = 5");
        Script.promise(17, "']' behind the second row goes behind it, if D does not hold", choice, "set a 1", "set d 1", "start 0 true = 0",
                "go 3 false = 3", "place = 5");
        Script.promise(17, "']' behind the second row breaks, if D holds", choice, "set a 1", "start 0 true = 0", "go 3 false = 2",
                "place = 4", "state = b");
        Script.promise(17, "']' ahead does not look at C", "say [a=0:b+1|a-1:d=0]", "set a 1", "set d 1", "start 0 true = 0",
                "go 3 false = 3", "place = 5");
    }

    private static void choiceBack() {
        String choice = "say e+1;[a=0:b+1|c+1:d=0]";
        Script.promise(17, "']' undone goes ahead of '|', if D holds", choice, "start 0 false = 6", "go 1 false = 1", "place = 3");
        Script.promise(17, "']' undone goes ahead of itself, if D does not hold", choice, "set d 1", "start 0 false = 6", "go 1 false = 1",
                "place = 5");
        Script.promise(17, "']' undone does not look at C", choice, "set a 1", "start 0 false = 6", "go 1 false = 1", "place = 3");
        Script.promise(17, "'[' undone goes ahead of itself, if C holds", choice, "start 0 false = 6", "go 3 false = 3", "place = 1");
        Script.promise(17, "'[' undone breaks, if C does not hold", choice, "set a 1", "start 0 false = 6", "go 3 false = 2", "place = 2",
                "state = b");
        Script.promise(17, "'[' undone does not look at D", "say e+1;[a=0:d+1|c+1:d=0]", "start 0 false = 6", "go 3 false = 3", "get d = -1",
                "place = 1");
        Script.promise(17, "'|' undone goes ahead of '[', if C does not hold", choice, "set a 1", "set d 1", "start 0 false = 6",
                "go 3 false = 3", "place = 1");
        Script.promise(17, "'|' undone breaks, if C holds", choice, "set d 1", "start 0 false = 6", "go 3 false = 2", "place = 4",
                "state = b");
        Script.promise(17, "'|' undone does not look at D", "say e+1;[a=0:b+1|d+1:d=0]", "set a 1", "set d 1", "start 0 false = 6",
                "go 3 false = 3", "get d = 0", "place = 1");
    }

    private static void loopAhead() {
        String loop = "say {a=0:b+1|c+1:d=0};e+1";
        Script.promise(17, "'{' goes to the first row, if C holds", loop, "start 0 true = 0", "go 1 false = 1", "place = 1");
        Script.promise(17, "'{' breaks, if C does not hold", loop, "set a 1", "start 0 true = 0", "go 1 false = 0", "place = 0", "state = b");
        Script.promise(17, "'{' does not look at D", loop, "set d 1", "start 0 true = 0", "go 1 false = 1", "place = 1");
        Script.promise(17, "'/' goes behind '}', if D holds", loop, "start 0 true = 0", "go 3 false = 3", "place = 5");
        Script.promise(17, "'/' goes to the second row, if D does not hold", loop, "set d 1", "start 0 true = 0", "go 3 false = 3",
                "place = 3");
        Script.promise(17, "'/' ahead does not look at C", "say {a=0:a+1|c+1:d=0}", "start 0 true = 0", "go 3 false = 3", "place = 5");
        Script.promise(17, "'}' goes behind '{', if C does not hold", "say {a=0:a+1|c+1:d=0};e+1", "set d 1", "start 0 true = 0",
                "go 5 false = 5", "place = 1", "get c = 1");
        Script.promise(17, "'}' breaks, if C holds", loop, "set d 1", "start 0 true = 0", "go 5 false = 4", "place = 4", "state = b");
        Script.promise(17, "'}' ahead does not look at D", "say {a=0:a+1|d-1:d=0}", "set d 1", "start 0 true = 0", "go 5 false = 5",
                "get d = 0", "place = 1");
        Script.promise(17, "a loop whose D holds at first goes through the first row once", loop, "start 0 true = 0", "go 500 false = 4",
                "state = e", "get b = 1", "get c = 0", "get e = 1");
    }

    private static void loopBack() {
        String loop = "say e+1;{a=0:b+1|c+1:d=0}";
        Script.promise(17, "'}' undone goes ahead of '/', if D holds", loop, "start 0 false = 6", "go 1 false = 1", "place = 3");
        Script.promise(17, "'}' undone breaks, if D does not hold", loop, "set d 1", "start 0 false = 6", "go 1 false = 0", "place = 6",
                "state = b");
        Script.promise(17, "'}' undone does not look at C", loop, "set a 1", "start 0 false = 6", "go 1 false = 1", "place = 3");
        Script.promise(17, "'{' undone goes ahead of itself, if C holds", loop, "start 0 false = 6", "go 3 false = 3", "place = 1");
        Script.promise(17, "'{' undone goes ahead of '}', if C does not hold", loop, "set a 1", "start 0 false = 6", "go 3 false = 3",
                "place = 5");
        Script.promise(17, "'{' undone does not look at D", "say e+1;{a=0:d+1|c+1:d=0}", "start 0 false = 6", "go 3 false = 3",
                "get d = -1", "place = 1");
        Script.promise(17, "'/' undone goes ahead of itself, if D does not hold", "say e+1;{a=0:d+1|c+1:d=0}", "set a 1",
                "start 0 false = 6", "go 5 false = 5", "place = 3", "get c = -1");
        Script.promise(17, "'/' undone breaks, if D holds", loop, "set a 1", "start 0 false = 6", "go 5 false = 4", "place = 4",
                "state = b", "get c = -1");
        Script.promise(17, "'/' undone does not look at C", "say e+1;{a=0:d+1|a+1:d=0}", "set a 1", "start 0 false = 6", "go 5 false = 5",
                "get a = 0", "place = 3");
    }

    private static void emptyRows() {
        Script.promise(17, "'[' goes to an empty first row, which is ahead of '|'", "say [a=0:|b+1:a=0]", "start 0 true = 0",
                "go 1 false = 1", "place = 1", "go 1 false = 1", "place = 4", "state = e");
        Script.promise(17, "'[' goes to an empty second row, which is ahead of ']'", "say [a=0:b+1|:a=0]", "set a 1", "start 0 true = 0",
                "go 1 false = 1", "place = 3", "go 1 false = 1", "place = 4", "state = e");
        Script.promise(17, "']' undone goes to an empty first row", "say [a=0:|b+1:a=0]", "start 0 false = 4", "go 1 false = 1",
                "place = 1", "go 1 false = 1", "place = 0", "state = e");
        Script.promise(17, "']' undone goes to an empty second row", "say [a=0:b+1|:a=0]", "set a 1", "start 0 false = 4",
                "go 1 false = 1", "place = 3", "go 1 false = 1", "place = 0", "state = e");
        Script.promise(17, "a loop with empty rows goes round without an end", "say {a=0:|:b=0}", "start 0 true = 0", "go 1 false = 1",
                "set a 1", "set b 1", "go 500 false = 500", "state = g", "place = 1", "go 499 false = 499", "place = 2", "set b 0",
                "go 500 false = 2", "place = 3", "state = e");
        Script.promise(17, "a loop with empty rows goes round backward", "say {a=0:|:b=0}", "start 0 false = 3", "go 1 false = 1",
                "place = 1", "set a 1", "set b 1", "go 1 false = 1", "place = 2", "go 1 false = 1", "place = 1", "set a 0",
                "go 500 false = 1", "place = 0", "state = e");
    }
}
