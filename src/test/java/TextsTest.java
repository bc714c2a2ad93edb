/** Promises 2 to 11: texts, their faults, and procedures made of them. */
public final class TextsTest {
    private static final String OPEN5 = "[0=0:{0=0:[0=0:{0=0:[0=0:";

    public static void main(String[] args) {
        typing();
        faultsOfUpdates();
        faultsOfOthers();
        faultsOfBrackets();
        faultsOfDeepBrackets();
        faultsOfOddSigns();
        defining();
        waysBack();
        inverting();
        looking();
        Script.end("TextsTest");
    }

    private static void fault(String text, String due) {
        Uncomputery object = new Uncomputery();
        Script.type(object, text);
        Script.same("fault of " + text, Script.faultOf(object), due);
        Script.same("fault of " + text + " once more", Script.faultOf(object), due);
    }

    private static void typing() {
        String[] lines = new String[70];
        for (int i = 0; i < 60; i++) {
            lines[i] = "type + = " + (i + 1);
        }
        lines[60] = "type + = throws IllegalStateException";
        lines[61] = "type a = throws IllegalStateException";
        lines[62] = "wipe = 60";
        lines[63] = "wipe = 0";
        lines[64] = "type a = 1";
        lines[65] = "type + = 2";
        lines[66] = "fault = 2";
        lines[67] = "faultKind = t";
        lines[68] = "wipe = 2";
        lines[69] = "fault = throws NoSuchElementException";
        Script.run("typing", lines);
        Script.run("no fault", "text a+1", "fault = throws NoSuchElementException",
                "faultKind = throws NoSuchElementException", "wipe = 3");
    }

    private static void faultsOfUpdates() {
        String[] cases = {"", "none", "a", "1o", "a+", "2t", "a+1", "none", "a+b", "none", "a+12", "none",
            "a+123", "none", "a+1234", "5e", "a+1+", "4t", "a+1+2", "none", "a-1*b", "none", "a^b&7", "none",
            "h-g-999", "none", "a+1+2+3", "5e", "a^b^c", "3e", "a+b^", "3e", "a*b", "1o", "a&b", "1o", "a=1", "1o",
            "ab", "1o", "a;", "1o", "a+i", "2t", "a++", "2t", "a+;", "2t", "a+1*1234", "7e", "a+1*i", "4t",
            "i+1", "0s", "A+1", "0s", "1+a", "0s", "`+1", "0s", "h+g", "none",
            ";", "0s", "a+1;", "4s", "a+1;;b+1", "4s", " a+1", "0s", "a+1 ", "3e", "a+1;b-2;c^3", "none",
            "a+1;b", "5o", "a+1b", "3e", "a+bc", "3e",
            "a+a", "0r", "b-1;a+a", "4r", "a+b*a", "0r", "a-a*b", "0r", "a^a", "0r", "a+a*", "4t", "a+a1", "0r",
            "a+a;", "0r", "a+a]", "0r", "a^a-a", "0r", "a+a*1234", "0r", "a+a;b+b", "0r", "b+1;b+a&b;", "4r",
            "h+a+h", "0r", "a+1+a", "0r", "a+b+b", "none"};
        for (int i = 0; i < cases.length; i += 2) {
            fault(cases[i], cases[i + 1]);
        }
    }

    private static void faultsOfOthers() {
        String[] cases = {"a~b", "none", "h~a", "none", "a~", "2v", "a~1", "2v", "a~i", "2v", "a~a", "2r", "a~a+", "2r",
            "a~bb", "3e", "b~c;c~c", "6r", "a~;", "2v",
            "!a", "none", "?h", "none", "!", "1v", "!1", "1v", "!i", "1v", "?", "1v", "??", "1v", "!ab", "2e", "!a;?b", "none",
            "@0", "none", "@5", "none", "$0", "none", "$5", "none", "@6", "1n", "$6", "1n", "@", "1n", "$", "1n",
            "@a", "1n", "@/", "1n", "@01", "2e", "$9", "1n",
            "!a]", "2e", "!a:", "2e", "!a|", "2e", "!a}", "2e", "]", "0s", "|", "0s", ":", "0s", "/", "0s", "}", "0s",
            "~", "0s", "+", "0s"};
        for (int i = 0; i < cases.length; i += 2) {
            fault(cases[i], cases[i + 1]);
        }
        fault("!a;!a;!a;!a;!a;!a;!a;!a;!a;!a;!a;!a;!a;!a;!a;!a;!a;!a;!a;!a;", "60s");
        fault("!a;!a;!a;!a;!a;!a;!a;!a;!a;!a;!a;!a;!a;!a;!a;!a;!a;!a;!a;!a", "none");
    }

    private static void faultsOfBrackets() {
        String[] cases = {"[", "1t", "{", "1t", "[a", "2c", "[a+", "2c", "[a;", "2c", "[12", "3c", "[1234<2", "4c", "[123<", "5t",
            "[a<", "3t", "[a<<", "3t", "[a<1", "4d", "[a<1234", "6d", "[a<b|", "4d", "[a<b+1:", "4d", "[a<b=c:", "4d",
            "[a<b:", "5s", "[a<b:]", "5s", "[a<b::", "5s", "[a<b:;", "5s", "[a<b:/", "5s",
            "[a<b:!c", "7e", "[a<b:!c:", "7e", "[a<b:!c]", "7e", "[a<b:!c;", "8s", "[a<b:!c;|", "8s",
            "[a<b:|", "6s", "[a<b:||", "6s", "[a<b:|]", "6s", "[a<b:|!c", "8e", "[a<b:|!c|", "8e", "[a<b:|!c;:", "9s",
            "[a<b:|:", "7t", "[a<b:|:]", "7t", "[a<b:|:a", "8c", "[a<b:|:1234", "10c", "[a<b:|:a=", "9t",
            "[a<b:|:a=1", "10x", "[a<b:|:a=1}", "10x", "[a<b:|:a=1:", "10x", "[a<b:|:a=1]", "none", "{a<b:|:a=1}", "none",
            "{a<b:|:a=1]", "10x", "[a<b:|:a=1234]", "12x", "[a<b:|:a=1]!b", "11e", "[a<b:|:a=1];!b", "none",
            "[a<b:|:a=1];", "12s", "[a<b:|:a=1]]", "11e", "{a<b:!c;a+a|:a=1}", "8r", "[a<b:!c|d+1;a~a:a=1]", "14r",
            "[a<a:|:1=1]", "none", "[1<2:|:3>4]", "none", "[a>1:[b=2:!c|?d:e<f]|{0<1:@0|$5:g>h}:9=99]", "none",
            "{a=0:[b=0:{c=0:|:c=0}|:b=0]|!a:a=0};b~c", "none", "!a;[b", "5c", "{a=0:@6", "6n", "{a=0:a", "6o",
            "[a<b:!c/!d:a=1]", "7e"};
        for (int i = 0; i < cases.length; i += 2) {
            fault(cases[i], cases[i + 1]);
        }
    }

    private static void faultsOfDeepBrackets() {
        fault(OPEN5 + "[", "26t");
        fault(OPEN5 + "[0=0:", "30s");
        fault(OPEN5 + "[0=0:[", "30m");
        fault(OPEN5 + "[0=0:{", "30m");
        fault(OPEN5 + "[0=0:{a", "30m");
        fault(OPEN5 + "[0=0:!a", "32e");
        fault(OPEN5 + "[0=0:!a;[", "33m");
        fault(OPEN5 + "[0=0:|{", "31m");
        fault(OPEN5 + "[0=0:|:0=0];[", "38t");
        fault(OPEN5 + "[0=0:|:0=0]|[", "38t");
        fault("[0=0:|[0=0:|[0=0:|[0=0:|[0=0:|[0=0:|{", "36m");
        fault("[0=0:|:0=0];[0=0:|:0=0];[0=0:|:0=0];[0=0:|:0=0];[0=0:|:0=0]", "none");
        fault("[0=0:[0=0:[0=0:[0=0:[0=0:|:0=0]|:0=0]|:0=0]|:0=0]|:0=0]", "none");
        fault("[0=0:{0=0:[0=0:{0=0:{0=0:|:0=0}|:0=0}|:0=0]|:0=0]|:0=0]", "48x");
    }

    private static void faultsOfOddSigns() {
        Script.run("odd signs", "type #0 = 1", "fault = 0", "faultKind = s", "wipe = 1", "type a = 1", "type #353 = 2",
                "fault = 1", "faultKind = o", "type #65535 = 3", "fault = 1", "wipe = 3", "type #65535 = 1", "fault = 0",
                "faultKind = s", "wipe = 1", "text a+1", "type #0 = 4", "fault = 3", "faultKind = e");
    }

    private static void defining() {
        Script.run("defining", "define = 0", "length 0 = 0", "size 0 = 0", "text a+", "define = throws IllegalArgumentException",
                "type 1 = 3", "define = 1", "wipe = 0", "length 1 = 3", "size 1 = 1", "say b+1", "say c+1", "say d+1",
                "procedures = 5", "text e+001", "define = 5", "length 5 = 5", "signAt 5 2 = 0", "text f+1",
                "define = throws IllegalStateException", "wipe = 3", "text f+", "define = throws IllegalArgumentException",
                "fault = 2", "wipe = 2", "define = throws IllegalStateException", "procedures = 6");
        Uncomputery object = new Uncomputery();
        String[] texts = {"[a<1:b+1|c-1:d=0];{a=0:!b|?c:d=1};a~b;@0;$1;a^1", "a+1+2;b-002*c", "", "!h", "{0=0:{1=1:|:1=1}|:0=0}"};
        String[] signs = {"[+|-]{!/?}~@$^", "+-", "", "!", "{{/}/}"};
        for (int i = 0; i < texts.length; i++) {
            Script.same("number of " + texts[i], Script.say(object, texts[i]), i);
            Script.same("text of " + texts[i], Script.textOf(object, i), texts[i]);
            Script.same("instructions of " + texts[i], Script.instructionsOf(object, i), signs[i]);
        }
    }

    private static void wayBack(String text, String due, String instructions) {
        Uncomputery object = new Uncomputery();
        Script.say(object, text);
        Script.same("invert " + text, object.invert(0), 1);
        Script.same("back of " + text, Script.textOf(object, 1), due);
        Script.same("instructions back of " + text, Script.instructionsOf(object, 1), instructions);
        Script.same("text of " + text, Script.textOf(object, 0), text);
        Script.same("isSound of " + text, object.isSound(), true);
    }

    private static void waysBack() {
        wayBack("", "", "");
        wayBack("a+1", "a-1", "-");
        wayBack("a-b*c", "a+b*c", "+");
        wayBack("a^b&7", "a^b&7", "^");
        wayBack("a+b-c", "a-b-c", "-");
        wayBack("a-b+c", "a+b+c", "+");
        wayBack("a~b", "a~b", "~");
        wayBack("h~g", "h~g", "~");
        wayBack("!a", "?a", "?");
        wayBack("?h", "!h", "!");
        wayBack("@0", "$0", "$");
        wayBack("$5", "@5", "@");
        wayBack("a+007", "a-7", "-");
        wayBack("a+000", "a-0", "-");
        wayBack("a+9-99", "a-9-99", "-");
        wayBack("a+009*010", "a-9*10", "-");
        wayBack("[9<a:|:b=100]", "[b=100:|:9<a]", "[|]");
        wayBack("a+010*001", "a-10*1", "-");
        wayBack("a+100&099", "a-100&99", "-");
        wayBack("a+999-b", "a-999-b", "-");
        wayBack("a+1;b-2;a~b", "a~b;b+2;a-1", "~+-");
        wayBack("[a<1:b+1;!c|d-1:e>02]", "[e>2:?c;b-1|d+1:a<1]", "[?-|+]");
        wayBack("{a=0:b+1|c+1;@1:d=010}", "{d=10:b-1|$1;c-1:a=0}", "{-/$-}");
        wayBack("[a=1:{b<2:!c|?d;e+1:f>3}|:g=4];h~a", "h~a;[g=4:{f>3:?c|e-1;!d:b<2}|:a=1]", "~[{?/-!}|]");
        wayBack("[001=a:|!b;[0=0:|:1=1];!c:b<00]", "[b<0:|?c;[1=1:|:0=0];?b:1=a]", "[|?[|]?]");
        wayBack("[0=0:[0=0:[0=0:[0=0:[1=0:|:0=0]|:0=0]|:0=0]|:0=0]|:0<0]",
                "[0<0:[0=0:[0=0:[0=0:[0=0:|:1=0]|:0=0]|:0=0]|:0=0]|:0=0]", "[[[[[|]|]|]|]|]");
    }

    private static void inverting() {
        Script.run("inverting", "invert 0 = throws IndexOutOfBoundsException", "invert -1 = throws IndexOutOfBoundsException",
                "say a+1;b+2", "text c+", "invert 0 = 1", "fault = 2", "wipe = 2", "invert 1 = 2", "length 2 = 7", "signAt 2 1 = +",
                "invert 3 = throws IndexOutOfBoundsException", "invert 0 = 3", "invert 0 = 4", "procedures = 5", "invert 4 = 5",
                "text c+1", "invert 0 = throws IllegalStateException", "invert 6 = throws IndexOutOfBoundsException",
                "invert -1 = throws IndexOutOfBoundsException", "procedures = 6", "wipe = 3");
    }

    private static void looking() {
        Script.run("looking", "length 0 = throws IndexOutOfBoundsException", "signAt 0 0 = throws IndexOutOfBoundsException",
                "size 0 = throws IndexOutOfBoundsException", "instruction 0 0 = throws IndexOutOfBoundsException",
                "say [a<1:!b|?c:a<1]", "say a~b", "length 0 = 15", "length 1 = 3", "length 2 = throws IndexOutOfBoundsException",
                "length -1 = throws IndexOutOfBoundsException", "signAt 0 0 = [", "signAt 0 14 = ]", "signAt 0 2 = <",
                "signAt 0 15 = throws IndexOutOfBoundsException", "signAt 0 -1 = throws IndexOutOfBoundsException",
                "signAt 1 3 = throws IndexOutOfBoundsException", "signAt 2 0 = throws IndexOutOfBoundsException",
                "signAt -1 0 = throws IndexOutOfBoundsException", "size 0 = 5", "size 1 = 1",
                "size 2 = throws IndexOutOfBoundsException", "size -1 = throws IndexOutOfBoundsException", "instruction 0 0 = [",
                "instruction 0 1 = !", "instruction 0 2 = |", "instruction 0 3 = ?", "instruction 0 4 = ]",
                "instruction 0 5 = throws IndexOutOfBoundsException", "instruction 0 -1 = throws IndexOutOfBoundsException",
                "instruction 1 0 = ~", "instruction 1 1 = throws IndexOutOfBoundsException",
                "instruction 2 0 = throws IndexOutOfBoundsException", "instruction -1 0 = throws IndexOutOfBoundsException");
    }
}
