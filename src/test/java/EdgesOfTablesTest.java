/** The boundary cases of promises 28 to 30, a test for each sentence: tables of what procedures do. */
public final class EdgesOfTablesTest {
    private static final String BEHIND = "throws IndexOutOfBoundsException";
    private static final String BAD = "throws IllegalArgumentException";
    private static final String REFUSED = "throws NoSuchElementException";
    /** 166 rounds of 3 steps each: 498. */
    private static final String LOOP = "{a=0:a+1|:a=166}";

    public static void main(String[] args) {
        for (int number = 28; number <= 30; number++) {
            noSuchProcedure(number);
            noSuchVariable(number);
            nothingIsChanged(number);
        }
        anyValue();
        asItIsNow();
        imageRefused();
        steps();
        worksCount();
        worksBounds();
        alikeCount();
        alikeBounds();
        Script.allPromised(28, 30);
        Script.end("EdgesOfTablesTest");
    }

    private static String call(int number, String procedure, String variable, String answer) {
        String[] names = {"image", "works", "alike"};
        return names[number - 28] + " " + procedure + " " + variable + (number == 28 ? " 3" : "") + " = " + answer;
    }

    private static void noSuchProcedure(int number) {
        Script.promise(number, "IndexOutOfBoundsException if there is none at all", call(number, "0", "a", BEHIND));
        Script.promise(number, "IndexOutOfBoundsException below 0", "say a+1", call(number, "-1", "a", BEHIND),
                call(number, "-2147483648", "a", BEHIND));
        Script.promise(number, "IndexOutOfBoundsException behind the last one", "say a+1", call(number, "1", "a", BEHIND),
                call(number, "2147483647", "a", BEHIND));
        Script.promise(number, "of 6 the last one has a table, and a seventh has none", "say ?a", "say ?a", "say ?a", "say ?a", "say ?a",
                "say b+1", call(number, "5", "a", number == 28 ? "3" : number == 29 ? "16" : "1"), call(number, "6", "a", BEHIND));
        Script.promise(number, "of both exceptions the one of the procedure, which is listed first", call(number, "0", "i", BEHIND), "say a+1",
                call(number, "1", "i", BEHIND), call(number, "-1", "`", BEHIND));
    }

    private static void noSuchVariable(int number) {
        Script.promise(number, "the first variable is 'a'", "say a-b", "set b 3", call(number, "0", "a",
                number == 28 ? "0" : number == 29 ? "16" : "1"), call(number, "0", "`", BAD));
        Script.promise(number, "the last variable is 'h'", "say h-b", "set b 3", call(number, "0", "h",
                number == 28 ? "0" : number == 29 ? "16" : "1"), call(number, "0", "i", BAD));
        Script.promise(number, "a capital is no variable", "say a+1", call(number, "0", "A", BAD), call(number, "0", "H", BAD));
        Script.promise(number, "the signs at both ends are no variables", "say a+1", call(number, "0", "#0", BAD),
                call(number, "0", "#65535", BAD));
        Script.promise(number, "a sign with the last bits of a variable is none", "say a+1", call(number, "0", "#353", BAD),
                call(number, "0", "#33", BAD));
        Script.promise(number, "of the exceptions the one of the variable is ahead of that of a run that breaks", "say ?a",
                call(number, "0", "i", BAD));
    }

    private static void nothingIsChanged(int number) {
        String works = number == 28 ? "4" : number == 29 ? "16" : "1";
        Script.promise(number, "the variables stay", "say a+1;b~c;d+5", "set a 9", "set b 1", "set c 2", call(number, "0", "a", works),
                "get a = 9", "get b = 1", "get c = 2", "get d = 0");
        Script.promise(number, "the stack stays", "say !b", "say a+1;!b;?c;?d;!e;!f;!g", "set b 6", "run 0 true = 1", "set b 7",
                call(number, "1", "a", works), "stacked = 1", "stackAt 0 = 6", "get b = 7", "get c = 0", "get d = 0");
        Script.promise(number, "a run that was begun stays", "say a+1;b+1", "say @0", "start 0 true = 0", "go 1 false = 1",
                call(number, "1", "a", works), "state = g", "place = 1", "inside = 0", "depth = 0", "isAhead = true", "steps = 1",
                "go 9 false = 1", "get a = 1", "get b = 1");
        Script.promise(number, "none is begun", "say a+1", call(number, "0", "a", works), "state = -");
        Script.promise(number, "no bits are erased", "say a+1", "set a 7", call(number, "0", "a", works), "erase b = 0");
        Script.promise(number, "nothing is changed if it breaks", "say a+1;!a;?b;?b", "set a 5",
                call(number, "0", "a", number == 28 ? REFUSED : "0"), "get a = 5", "get b = 0", "stacked = 0", "state = -", "steps = 0");
        Script.promise(number, "the text that is being typed stays", "say a+1", "text b+", call(number, "0", "a", works), "type 1 = 3",
                "define = 1", "textOf 1 = b+1");
    }

    private static void anyValue() {
        Script.promise(28, "any value: the greatest, which goes round", "say a+1", "image 0 a 2147483647 = -2147483648");
        Script.promise(28, "any value: the least, which goes round", "say a-1", "image 0 a -2147483648 = 2147483647");
        Script.promise(28, "any value: 0 and below it", "say a^0", "image 0 a 0 = 0", "image 0 a -1 = -1", "image 0 a 16 = 16");
        Script.promise(28, "what the variable becomes that has the value", "say h+a", "set a 3", "image 0 h 4 = 7", "image 0 a 4 = 4");
        Script.promise(28, "an empty procedure leaves the value", "define = 0", "image 0 a 77 = 77", "image 0 h -5 = -5");
        Script.promise(28, "the variable's own value now does not matter", "say a+1", "set a 100", "image 0 a 3 = 4", "set a -100",
                "image 0 a 3 = 4");
        Script.promise(28, "it runs forward", "say a+1;b+a;a+b", "image 0 a 3 = 8");
        Script.promise(28, "it runs forward though the run that was begun goes back", "say a+1", "start 0 false = 1", "image 0 a 3 = 4");
    }

    private static void asItIsNow() {
        Script.promise(28, "all other variables as they are now", "say a+b;a+h", "set b 10", "set h 100", "image 0 a 1 = 111", "set h 200",
                "image 0 a 1 = 211");
        Script.promise(28, "the stack included, if it has a value", "say !b", "say b+a;b-a;a-1;?c;a+c", "set b 8", "run 0 true = 1",
                "image 1 a 5 = 12");
        Script.promise(28, "the stack included, if it is empty", "say ?c", "image 0 a 1 = " + REFUSED);
        Script.promise(28, "the stack included, if it is full", "say !g;!g;!g;!g;!g;!g;!g;!g;!g;!g;!g;!g;!g;!g;!g;!g;!g;!g;!g;!g", "say !b",
                "image 1 a 1 = 1", "run 0 true = 20", "image 1 a 1 = " + REFUSED, "works 1 a = 0");
        Script.promise(28, "the value is set ahead of the run, and not put onto the stack", "say !a;?b;a+b", "image 0 a 9 = 9",
                "stacked = 0");
        Script.promise(28, "a second image is not that of the first one's outcome", "say b+1;a+b", "image 0 a 0 = 1", "image 0 a 0 = 1");
    }

    private static void imageRefused() {
        Script.promise(28, "NoSuchElementException if it breaks for this value, and not for another", "say ?a;!a", "say !b", "set b 3",
                "run 1 true = 1", "image 0 a 0 = 0", "image 0 a 1 = " + REFUSED, "image 0 a -1 = " + REFUSED);
        Script.promise(28, "NoSuchElementException if it breaks at the last step", "say a+1;?b", "image 0 a 0 = " + REFUSED);
        Script.promise(28, "NoSuchElementException if a test breaks it", "say [a=0:|:a=1]", "image 0 a 0 = " + REFUSED,
                "image 0 a 1 = " + REFUSED, "image 0 a 2 = 2");
        Script.promise(28, "NoSuchElementException if a procedure is missing", "say @1", "image 0 a 0 = " + REFUSED, "say a+1",
                "image 0 a 0 = 1");
        Script.promise(28, "NoSuchElementException if a 21st call breaks it", "say @0", "image 0 a 0 = " + REFUSED,
                "say [a=20:c+1|a+1;@1;c+1:c=1]", "image 1 a 0 = 20", "image 1 a -1 = " + REFUSED);
        Script.promise(28, "NoSuchElementException if it does not end", "say {a=0:a+1|b+1:c=1}", "image 0 a 0 = " + REFUSED);
    }

    private static void steps() {
        Script.promise(28, "it ends in 500 steps", "say b+1;c+1;" + LOOP, "image 0 a 0 = 166");
        Script.promise(28, "NoSuchElementException if it does not end in 500 steps, but in 501", "say b+1;c+1;d+1;" + LOOP,
                "image 0 a 0 = " + REFUSED);
        Script.promise(29, "so it comes to its end: in 500 steps", "say b+1;c+1;" + LOOP, "works 0 a = 1", "works 0 d = 16");
        Script.promise(29, "so it comes to its end: not in 501 steps", "say b+1;c+1;d+1;" + LOOP, "works 0 a = 0", "works 0 d = 0");
        Script.promise(30, "so it comes to its end: in 500 steps", "say b+1;c+1;" + LOOP, "alike 0 a = 1");
        Script.promise(30, "so it comes to its end: not in 501 steps", "say b+1;c+1;d+1;" + LOOP, "alike 0 a = 0", "alike 0 e = 0");
    }

    private static void worksCount() {
        Script.promise(29, "0 if it comes to its end for none", "say ?a", "works 0 a = 0", "works 0 h = 0");
        Script.promise(29, "1 if it does for one", "say !b", "say ?a", "run 0 true = 1", "works 1 a = 1");
        Script.promise(29, "16 if it does for all", "say a+1", "works 0 a = 16");
        Script.promise(29, "16 for an empty procedure", "define = 0", "works 0 a = 16", "works 0 h = 16");
        Script.promise(29, "16 for a variable that it does not have, as all else is now", "say b+1", "works 0 a = 16");
        Script.promise(29, "0 for a variable that it does not have, as all else is now", "say ?b", "set b 3", "works 0 a = 0");
        Script.promise(29, "the stack included", "say !b", "say ?c", "works 1 a = 0", "run 0 true = 1", "works 1 a = 16", "works 1 c = 1");
        Script.promise(29, "the variable's own value now does not matter", "say [a<5:|:a<9]", "set a 100", "works 0 a = 12");
        Script.promise(29, "different values that become the same all count", "say [a=0:a+1|:a=1]", "works 0 a = 15");
    }

    private static void worksBounds() {
        Script.promise(29, "the value 0 counts", "say {a=0:|:a=0}", "works 0 a = 1");
        Script.promise(29, "the value 1 counts", "say {a=1:|:a=1}", "works 0 a = 1");
        Script.promise(29, "the value 15 counts", "say {a=15:|:a=15}", "works 0 a = 1");
        Script.promise(29, "the value 16 does not count", "say {a=16:|:a=16}", "works 0 a = 0");
        Script.promise(29, "the value -1 does not count", "say {a<0:|:a<0}", "works 0 a = 0");
        Script.promise(29, "no value above 16 counts", "say {a>15:|:a>15}", "works 0 a = 0");
        Script.promise(29, "all values below 16 count", "say {a<16:|:a<16}", "works 0 a = 16");
    }

    private static void alikeCount() {
        Script.promise(30, "0 if none comes to the end", "say ?a", "alike 0 a = 0", "alike 0 h = 0");
        Script.promise(30, "1 if one does", "say {a=7:|:a=7}", "alike 0 a = 1");
        Script.promise(30, "1 if all become different values", "say a+9", "alike 0 a = 1");
        Script.promise(30, "1 for an empty procedure", "define = 0", "alike 0 a = 1");
        Script.promise(30, "16 if all become the same value", "say a~b", "set b 5", "alike 0 a = 16", "alike 0 b = 16");
        Script.promise(30, "16 if all become 0", "say a~b", "alike 0 a = 16");
        Script.promise(30, "the most of several values", "say b+a&3;a~b", "alike 0 a = 4");
        Script.promise(30, "the most, though it is that of the last value", "say b-a;[a<8:b~c|c+1:a<8];a~c", "alike 0 a = 8");
        Script.promise(30, "2 that become the same value, all others different ones", "say b+a;[a=15:b-15|:a=15];a~b", "alike 0 a = 2");
        Script.promise(30, "values that become the same below 0", "say !a;a-1", "alike 0 a = 16");
        Script.promise(30, "those that do not come to the end do not count", "say [a<6:|:a<7];!a", "alike 0 a = 15");
        Script.promise(30, "those that do not come to the end are not alike those that become 0", "say {a=0:|:a=0}", "alike 0 a = 1");
        Script.promise(30, "of this variable, not of another one", "say b+5", "alike 0 a = 1", "alike 0 b = 1", "say !b", "alike 1 a = 1",
                "alike 1 b = 16");
        Script.promise(30, "values whose last bits are the same are not alike", "say b+a*256;a~b", "alike 0 a = 1", "say c+a*999;a~c",
                "alike 1 a = 1");
    }

    private static void alikeBounds() {
        Script.promise(30, "the value 0 counts", "say {a<2:|:a<2};!a", "alike 0 a = 2");
        Script.promise(30, "the value 15 counts", "say {a>13:|:a>13};!a", "alike 0 a = 2");
        Script.promise(30, "the value 16 does not count", "say {a>14:|:a>14};!a", "alike 0 a = 1");
        Script.promise(30, "the value -1 does not count", "say {a<1:|:a<1};!a", "alike 0 a = 1");
    }
}
