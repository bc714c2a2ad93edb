/** The boundary cases of promises 2, 3 and 6 to 11, a test for each sentence: typing, and procedures made of texts. */
public final class EdgesOfTextsTest {
    private static final String FULL = "!a;!b;!c;!d;!e;!f;!g;!h;!a;!b;!c;!d;!e;!f;!g;!h;!a;!b;a+11+1";
    private static final String OTHER = "say b-1";

    public static void main(String[] args) {
        type();
        wipe();
        define();
        defineRefused();
        invert();
        turnedStatements();
        turnedBrackets();
        turnedNumbers();
        length();
        signAt();
        size();
        instruction();
        Script.allPromised(2, 3);
        Script.allPromised(6, 11);
        Script.end("EdgesOfTextsTest");
    }

    private static String[] lines(int count, String first, String... others) {
        String[] all = new String[count + others.length];
        for (int i = 0; i < count; i++) {
            all[i] = "type " + first + " = " + (i + 1);
        }
        System.arraycopy(others, 0, all, count, others.length);
        return all;
    }

    private static void type() {
        Script.promise(2, "returns how many are typed, 1 for the first one", "type a = 1", "type a = 2");
        Script.promise(2, "a text has at most 60 signs, so the 60th is typed", lines(60, "+", "wipe = 60"));
        Script.promise(2, "IllegalStateException if 60 are typed", lines(60, "+", "type + = throws IllegalStateException",
                "type #0 = throws IllegalStateException", "wipe = 60"));
        Script.promise(2, "a sign that was refused is not in the text", "text " + FULL, "type 1 = throws IllegalStateException",
                "fault = throws NoSuchElementException", "define = 0", "length 0 = 60", "textOf 0 = " + FULL);
        Script.promise(2, "any sign can be typed", "type #0 = 1", "type #65535 = 2", "type #255 = 3", "type #256 = 4", "type #10 = 5",
                "fault = 0", "wipe = 5");
        Script.promise(2, "a sign is the whole of its number", "type #353 = 1", "fault = 0", "faultKind = s", "wipe = 1",
                "type a = 1", "type #299 = 2", "fault = 1", "faultKind = o");
        Script.promise(2, "a full text that was emptied takes 60 again", "text " + FULL, "wipe = 60", "type a = 1", "wipe = 1",
                "faultOf " + FULL + " = none", "wipe = 60");
        Script.promise(2, "a text that was made a procedure of is begun again", "text a+1", "define = 0", "type b = 1");
        Script.promise(2, "a text of which no procedure could be made goes on", "text a+", "define = throws IllegalArgumentException",
                "type 1 = 3");
    }

    private static void wipe() {
        Script.promise(3, "returns 0 of an empty text", "wipe = 0", "wipe = 0");
        Script.promise(3, "returns how many signs the text had", "type a = 1", "wipe = 1", "text a+1;", "wipe = 4");
        Script.promise(3, "returns 60 of a full text", "text " + FULL, "wipe = 60");
        Script.promise(3, "empties the text", "text a+", "wipe = 2", "fault = throws NoSuchElementException", "wipe = 0",
                "type b = 1", "fault = 1", "type + = 2", "type 1 = 3", "define = 0", "textOf 0 = b+1");
        Script.promise(3, "leaves the procedures", "say a+1", "text b+2", "wipe = 3", "procedures = 1", "textOf 0 = a+1");
    }

    private static void define() {
        Script.promise(6, "returns its number, from 0 to 5", "say a+0", "text a+1", "define = 1", "text a+2", "define = 2", "text a+3",
                "define = 3", "text a+4", "define = 4", "text a+5", "define = 5", "textOf 0 = a+0", "textOf 5 = a+5");
        Script.promise(6, "a text is a row of statements, perhaps none", "define = 0", "length 0 = 0", "size 0 = 0", "define = 1");
        Script.promise(6, "a full text makes a procedure", "text " + FULL, "define = 0", "length 0 = 60", "size 0 = 19",
                "textOf 0 = " + FULL);
        Script.promise(6, "20 instructions of 59 signs", "text !a;!a;!a;!a;!a;!a;!a;!a;!a;!a;!a;!a;!a;!a;!a;!a;!a;!a;!a;!a",
                "define = 0", "size 0 = 20", "signsOf 0 = !!!!!!!!!!!!!!!!!!!!", "set a 5", "run 0 true = 20", "stackAt 19 = 5");
        Script.promise(6, "the text is empty then", "text a+1", "define = 0", "wipe = 0", "text a+1", "define = 1", "define = 2",
                "length 2 = 0");
        Script.promise(6, "the text stays as it was typed, with zeros ahead", "text a+001", "define = 0", "textOf 0 = a+001");
        Script.promise(6, "the numbers go on behind those of the ways back", "say a+1", "invert 0 = 1", "text b+1", "define = 2");
    }

    private static void defineRefused() {
        Script.promise(6, "IllegalArgumentException if it has a fault", "text a+", "define = throws IllegalArgumentException",
                "procedures = 0", "wipe = 2", "text ;", "define = throws IllegalArgumentException", "text a+1;",
                "define = throws IllegalArgumentException", "text a+a", "define = throws IllegalArgumentException", "procedures = 0");
        Script.promise(6, "a text that is refused for its fault is kept", "text a+", "define = throws IllegalArgumentException",
                "type 1 = 3", "define = 0", "textOf 0 = a+1");
        Script.promise(6, "IllegalStateException if there are 6", OTHER, OTHER, OTHER, OTHER, OTHER, OTHER, "text a+1",
                "define = throws IllegalStateException", "procedures = 6", "textOf 5 = b-1", "wipe = 3",
                "define = throws IllegalStateException");
        Script.promise(6, "a seventh is refused though the sixth was a way back", OTHER, "invert 0 = 1", OTHER, OTHER, OTHER,
                "invert 0 = 5", "text a+1", "define = throws IllegalStateException", "wipe = 3");
        Script.promise(6, "of both exceptions the one of the fault, which is listed first", OTHER, OTHER, OTHER, OTHER, OTHER, OTHER,
                "text a+", "define = throws IllegalArgumentException", "wipe = 2");
    }

    private static void invert() {
        Script.promise(7, "IndexOutOfBoundsException if there is none at all", "invert 0 = throws IndexOutOfBoundsException",
                "procedures = 0");
        Script.promise(7, "IndexOutOfBoundsException below 0", "say a+1", "invert -1 = throws IndexOutOfBoundsException",
                "invert -2147483648 = throws IndexOutOfBoundsException");
        Script.promise(7, "IndexOutOfBoundsException behind the last one", "say a+1", "invert 1 = throws IndexOutOfBoundsException",
                "invert 2147483647 = throws IndexOutOfBoundsException", "invert 0 = 1", "invert 1 = 2", "textOf 2 = a+1");
        Script.promise(7, "the sixth can be a way back", OTHER, OTHER, OTHER, OTHER, OTHER, "invert 4 = 5", "textOf 5 = b+1");
        Script.promise(7, "IllegalStateException if there are 6", OTHER, OTHER, OTHER, OTHER, OTHER, OTHER,
                "invert 0 = throws IllegalStateException", "invert 5 = throws IllegalStateException", "procedures = 6");
        Script.promise(7, "of both exceptions the one of the number, which is listed first", OTHER, OTHER, OTHER, OTHER, OTHER, OTHER,
                "invert 6 = throws IndexOutOfBoundsException", "invert -1 = throws IndexOutOfBoundsException");
        Script.promise(7, "an empty text backward is empty", "define = 0", "invert 0 = 1", "length 1 = 0", "size 1 = 0");
        Script.promise(7, "the text that is being typed stays", "say a+1", "text b+", "invert 0 = 1", "type 7 = 3", "define = 2",
                "textOf 2 = b+7");
        Script.promise(7, "the other one stays", "say a+1;b-2", "invert 0 = 1", "textOf 0 = a+1;b-2", "signsOf 0 = +-");
        Script.promise(7, "a full text backward is full", "say " + FULL, "invert 0 = 1", "length 1 = 60", "size 1 = 19",
                "textOf 1 = a-11+1;?b;?a;?h;?g;?f;?e;?d;?c;?b;?a;?h;?g;?f;?e;?d;?c;?b;?a");
    }

    private static void backward(String sentence, String text, String back) {
        Script.promise(7, sentence, "say " + text, "invert 0 = 1", "textOf 1 = " + back, "invert 1 = 2", "invert 2 = 3",
                "textOf 3 = " + back);
    }

    private static void turnedStatements() {
        backward("the statements come in the reverse order", "a^1;b^2;c^3", "c^3;b^2;a^1");
        backward("+ becomes -", "a+1", "a-1");
        backward("- becomes +", "a-1", "a+1");
        backward("^ is as it is", "a^b", "a^b");
        backward("swaps are as they are", "b~a", "b~a");
        backward("! becomes ?", "!h", "?h");
        backward("? becomes !", "?a", "!a");
        backward("@ becomes $, its digit as it is", "@5", "$5");
        backward("$ becomes @, its digit as it is", "$0", "@0");
        backward("the signs within a sum are as they are", "a+b-c;d-e+f;g^h*a;b+c&d", "b-c&d;g^h*a;d+e+f;a-b-c");
        backward("the terms of a sum are in their order", "a^b-9", "a^b-9");
    }

    private static void turnedBrackets() {
        backward("a choice has D first and C last", "[a<1:|:b>2]", "[b>2:|:a<1]");
        backward("a loop has D first and C last", "{a=1:|:b=2}", "{b=2:|:a=1}");
        backward("the terms of a test are in their order", "[1<a:|:a>2]", "[a>2:|:1<a]");
        backward("both rows of a choice are at their places", "[a=1:b^1|c^2:d=3]", "[d=3:b^1|c^2:a=1]");
        backward("both rows of a loop are at their places", "{a=1:b^1|c^2:d=3}", "{d=3:b^1|c^2:a=1}");
        backward("an empty first row stays empty", "[a=1:|c+2:d=3]", "[d=3:|c-2:a=1]");
        backward("an empty second row stays empty", "{a=1:c+2|:d=3}", "{d=3:c-2|:a=1}");
        backward("each row is backward", "[a=1:!b;@2|c+2;d~e:d=3]", "[d=3:$2;?b|d~e;c-2:a=1]");
        backward("rows within rows are backward", "[a=1:{b=2:!c;d^1|$1;?e:f=3}|:g=4];a+1",
                "a-1;[g=4:{f=3:d^1;?c|!e;@1:b=2}|:a=1]");
        backward("a bracket behind another one comes ahead of it", "[a=1:|:b=2];{c=3:|:d=4}", "{d=4:|:c=3};[b=2:|:a=1]");
        backward("5 within one another", "[0=1:[0=2:[0=3:[0=4:[0=5:|:6=0]|:7=0]|:8=0]|:9=0]|:a=0]",
                "[a=0:[9=0:[8=0:[7=0:[6=0:|:0=5]|:0=4]|:0=3]|:0=2]|:0=1]");
    }

    private static void turnedNumbers() {
        backward("numbers are without zeros ahead in a first term", "a^007;b^070*c", "b^70*c;a^7");
        backward("numbers are without zeros ahead in a second term", "a^b&09;c^d*010", "c^d*10;a^b&9");
        backward("a number of zeros alone keeps one", "a^0;b^00;c^000", "c^0;b^0;a^0");
        backward("zeros that are not ahead stay", "a^100;b^10;c^101", "c^101;b^10;a^100");
        backward("numbers in tests are without zeros ahead", "[01<a:|b^1:c=002]", "[c=2:|b^1:1<a]");
        backward("the greatest number", "a+999-099", "a-999-99");
    }

    private static void length() {
        Script.promise(8, "0 for an empty text", "define = 0", "length 0 = 0");
        Script.promise(8, "60 for a full text", "say " + FULL, "length 0 = 60");
        Script.promise(8, "zeros ahead count", "say a+001", "invert 0 = 1", "length 0 = 5", "length 1 = 3");
        Script.promise(8, "IndexOutOfBoundsException if there is none at all", "length 0 = throws IndexOutOfBoundsException");
        Script.promise(8, "IndexOutOfBoundsException below 0", "say a+1", "length -1 = throws IndexOutOfBoundsException",
                "length -2147483648 = throws IndexOutOfBoundsException");
        Script.promise(8, "IndexOutOfBoundsException behind the last one", "say a+1", "length 0 = 3",
                "length 1 = throws IndexOutOfBoundsException", "length 5 = throws IndexOutOfBoundsException");
        Script.promise(8, "of 6 the last one has a length, and a seventh none", OTHER, OTHER, OTHER, OTHER, OTHER, "say a+12",
                "length 5 = 4", "length 6 = throws IndexOutOfBoundsException");
    }

    private static void signAt() {
        Script.promise(9, "the first sign has the index 0", "say a+1", "signAt 0 0 = a");
        Script.promise(9, "the last sign has the index of the length less 1", "say a+1", "signAt 0 2 = 1", "say " + FULL,
                "signAt 1 59 = 1", "signAt 1 58 = +");
        Script.promise(9, "IndexOutOfBoundsException at the length", "say a+1", "signAt 0 3 = throws IndexOutOfBoundsException",
                "say " + FULL, "signAt 1 60 = throws IndexOutOfBoundsException", "signAt 1 2147483647 = throws IndexOutOfBoundsException");
        Script.promise(9, "IndexOutOfBoundsException below index 0", "say a+1", "signAt 0 -1 = throws IndexOutOfBoundsException",
                "signAt 0 -2147483648 = throws IndexOutOfBoundsException");
        Script.promise(9, "an empty text has no sign", "define = 0", "signAt 0 0 = throws IndexOutOfBoundsException");
        Script.promise(9, "IndexOutOfBoundsException if there is no such procedure", "signAt 0 0 = throws IndexOutOfBoundsException",
                "say a+1", "signAt 1 0 = throws IndexOutOfBoundsException", "signAt -1 0 = throws IndexOutOfBoundsException");
    }

    private static void size() {
        Script.promise(10, "0 for an empty text", "define = 0", "size 0 = 0");
        Script.promise(10, "each statement is one", "say a+1;b-2;c^3;d~e;!f;?g;@0;$1", "size 0 = 8");
        Script.promise(10, "a choice has three more", "say [a=0:|:a=0]", "size 0 = 3", "say [a=0:!b|?c;?d:a=0]", "size 1 = 6");
        Script.promise(10, "a loop has three more", "say {a=0:|:a=0}", "size 0 = 3", "say {a=0:!b|?c;?d:a=0}", "size 1 = 6");
        Script.promise(10, "IndexOutOfBoundsException if there is none at all", "size 0 = throws IndexOutOfBoundsException");
        Script.promise(10, "IndexOutOfBoundsException below 0", "say a+1", "size -1 = throws IndexOutOfBoundsException");
        Script.promise(10, "IndexOutOfBoundsException behind the last one", "say a+1", "size 1 = throws IndexOutOfBoundsException",
                "size 6 = throws IndexOutOfBoundsException");
    }

    private static void instruction() {
        Script.promise(11, "the sign of each statement", "say a+1;b-2;c^3;d~e;!f;?g;@0;$1", "signsOf 0 = +-^~!?@$",
                "instruction 0 0 = +", "instruction 0 7 = $");
        Script.promise(11, "'[' ahead of the first row, '|' between both, ']' behind the second one", "say [a=0:!b|?c;@0:a=0]",
                "signsOf 0 = [!|?@]");
        Script.promise(11, "'{', '/' and '}' there", "say {a=0:!b|?c;@0:a=0}", "signsOf 0 = {!/?@}");
        Script.promise(11, "empty rows have no instruction", "say [a=0:|:a=0];{a=0:|:a=0}", "signsOf 0 = [|]{/}");
        Script.promise(11, "IndexOutOfBoundsException at the size", "say a+1;b-2", "instruction 0 1 = -",
                "instruction 0 2 = throws IndexOutOfBoundsException", "instruction 0 2147483647 = throws IndexOutOfBoundsException");
        Script.promise(11, "IndexOutOfBoundsException below place 0", "say a+1", "instruction 0 -1 = throws IndexOutOfBoundsException");
        Script.promise(11, "an empty text has no instruction", "define = 0", "instruction 0 0 = throws IndexOutOfBoundsException");
        Script.promise(11, "IndexOutOfBoundsException if there is no such procedure", "instruction 0 0 = throws IndexOutOfBoundsException",
                "say a+1", "instruction 1 0 = throws IndexOutOfBoundsException", "instruction -1 0 = throws IndexOutOfBoundsException");
    }
}
