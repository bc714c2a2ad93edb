/** The boundary cases of promises 4 and 5, a test for each sentence: where the fault of a text is, and which one. */
public final class EdgesOfFaultsTest {
    private static final String FIVE = "[0=0:{0=0:[0=0:{0=0:[0=0:";
    private static final String SIX = FIVE + "{0=0:";
    private static final String TWENTY = "!a;!a;!a;!a;!a;!a;!a;!a;!a;!a;!a;!a;!a;!a;!a;!a;!a;!a;!a;!a";

    public static void main(String[] args) {
        places();
        none();
        statements();
        statementsInRows();
        variables();
        changes();
        terms();
        testSigns();
        colons();
        closers();
        digits();
        ends();
        endsInRows();
        ownVariables();
        ownSwaps();
        within();
        firstFound();
        Script.allPromised(4, 5);
        Script.end("EdgesOfFaultsTest");
    }

    /** Cases are texts and their faults in turn. */
    private static void faults(int promise, String sentence, String... cases) {
        String[] lines = new String[cases.length / 2];
        for (int i = 0; i < lines.length; i++) {
            lines[i] = "faultOf " + cases[2 * i] + " = " + cases[2 * i + 1];
        }
        Script.promise(promise, sentence, lines);
    }

    private static void places() {
        Script.promise(4, "places are from 0", "text ;", "fault = 0", "text a+1;;", "fault = 4");
        Script.promise(4, "at its length, if more must come", "text a+", "fault = 2", "text a+1;", "fault = 4", "text !", "fault = 1",
                "text [", "fault = 1", "text [a=0:|:a=0", "fault = 10");
        Script.promise(4, "at 60, if more must come to a full text", "text " + TWENTY + ";", "fault = 60", "faultKind = s",
                "wipe = 60", "text " + TWENTY + "a", "fault = 59", "faultKind = e");
        Script.promise(4, "at the first sign that cannot stand there, whatever comes behind", "text a+1^b;c", "fault = 3",
                "text ;a+1", "fault = 0", "text a+*b+*", "fault = 2");
        Script.promise(4, "asked twice it is the same", "text a+", "fault = 2", "fault = 2", "faultKind = t", "fault = 2", "wipe = 2");
        Script.promise(4, "it goes with the text as it is now", "type a = 1", "fault = 1", "type + = 2", "fault = 2", "type 1 = 3",
                "fault = throws NoSuchElementException", "type ; = 4", "fault = 4", "wipe = 4", "fault = throws NoSuchElementException");
        Script.promise(4, "it is of the text that is typed, not of procedures", "say a+1", "text b", "fault = 1", "text a~a", "fault = 2");
    }

    private static void none() {
        Script.promise(4, "NoSuchElementException if there is none", "text a+1", "fault = throws NoSuchElementException", "text " + TWENTY,
                "fault = throws NoSuchElementException", "wipe = 59");
        Script.promise(4, "an empty text has no fault", "fault = throws NoSuchElementException", "text a", "fault = 1", "wipe = 1",
                "fault = throws NoSuchElementException");
        Script.promise(5, "NoSuchElementException if there is none", "text a+1", "faultKind = throws NoSuchElementException",
                "text " + TWENTY, "faultKind = throws NoSuchElementException");
        Script.promise(5, "an empty text has no fault", "faultKind = throws NoSuchElementException", "text a", "faultKind = o", "wipe = 1",
                "faultKind = throws NoSuchElementException");
        faults(4, "a full text can be without a fault", TWENTY.substring(0, 57) + "b+1", "none", TWENTY.substring(0, 57) + "b+", "59t");
    }

    private static void statements() {
        faults(5, "'s' a statement: signs that begin none", "1", "0s", "+", "0s", "-1", "0s", "^", "0s", "~a", "0s", "=", "0s",
                "<", "0s", ">", "0s", "*", "0s", "&", "0s", " ", "0s", "A", "0s", "(", "0s");
        faults(5, "'s' statements begin with variables a to h alone", "`+1", "0s", "i+1", "0s", "a+1", "none", "h+1", "none");
        faults(5, "'s' behind a ; a statement must come", "a+1;", "4s", "a+1;;b+1", "4s", "a+1;1", "4s", "a+1;b+1;", "8s");
        faults(5, "'s' behind a ; a row cannot end", "[a<1:!b;|", "8s", "[a<1:|!b;:", "9s", "{a<1:!b;|", "8s", "{a<1:|!b;:", "9s");
    }

    private static void statementsInRows() {
        faults(5, "'s' also where a row could be empty, but its end does not stand there: the text", ";", "0s", "|", "0s", ":", "0s",
                "]", "0s", "}", "0s", "/", "0s");
        faults(5, "'s' also where a row could be empty, but its end does not stand there: first rows", "[a<1:", "5s", "[a<1:]", "5s",
                "[a<1::", "5s", "[a<1:;", "5s", "[a<1:/", "5s", "{a<1:", "5s", "{a<1:}", "5s", "{a<1::", "5s", "{a<1:/", "5s");
        faults(5, "'s' also where a row could be empty, but its end does not stand there: second rows", "[a<1:|", "6s", "[a<1:|]", "6s",
                "[a<1:||", "6s", "[a<1:|;", "6s", "{a<1:|", "6s", "{a<1:|}", "6s", "{a<1:||", "6s");
        faults(5, "both rows can be empty", "[a<1:|:a<1]", "none", "{a<1:|:a<1}", "none");
        faults(5, "one row can be empty", "[a<1:!b|:a<1]", "none", "[a<1:|!b:a<1]", "none", "{a<1:!b|:a<1}", "none",
                "{a<1:|!b:a<1}", "none");
    }

    private static void variables() {
        faults(5, "'v' a variable behind ! and ?", "!", "1v", "?", "1v", "!1", "1v", "?;", "1v", "!!a", "1v", "?@", "1v");
        faults(5, "'v' variables behind ! and ? are a to h", "!a", "none", "!h", "none", "!i", "1v", "!`", "1v", "?a", "none",
                "?h", "none", "?i", "1v", "?`", "1v", "?A", "1v");
        faults(5, "'v' a variable behind ~", "a~", "2v", "a~1", "2v", "a~;", "2v", "a~~", "2v");
        faults(5, "'v' variables behind ~ are a to h", "b~a", "none", "a~h", "none", "a~i", "2v", "a~`", "2v", "a~A", "2v");
    }

    private static void changes() {
        faults(5, "'o' what changes a variable, at the end of a text", "a", "1o", "!b;h", "4o");
        faults(5, "'o' what changes a variable is +, -, ^ or ~ alone", "a+1", "none", "a-1", "none", "a^1", "none", "a~b", "none",
                "a*1", "1o", "a&1", "1o", "a=1", "1o", "a<1", "1o", "a!", "1o", "a1", "1o", "ab", "1o", "a;", "1o", "a:", "1o", "a,1", "1o",
                "a]1", "1o", "a_1", "1o", "a}", "1o");
    }

    private static void terms() {
        faults(5, "'t' a term, at the end of a text", "a+", "2t", "a-b+", "4t", "[", "1t", "{", "1t", "[a<", "3t", "[a<1:|:", "7t",
                "[a<1:|:a<", "9t");
        faults(5, "'t' terms are variables a to h", "b+a", "none", "a+h", "none", "a+i", "2t", "a+`", "2t", "a+A", "2t", "b+a*a", "none",
                "a+1*h", "none", "a+1*i", "4t", "a+1*`", "4t");
        faults(5, "'t' or numbers of the digits 0 to 9", "a+0", "none", "a+9", "none", "a+/", "2t", "a+:", "2t", "a+1*0", "none",
                "a+1*9", "none", "a+1*/", "4t", "a+1*:", "4t");
        faults(5, "'t' in each of the four terms of two tests", "[;", "1t", "[a<;", "3t", "[a<1:|:;", "7t", "[a<1:|:a<;", "9t", "{!", "1t",
                "{a<<", "3t", "{a<1:|:}", "7t", "{a<1:|:a<}", "9t");
        faults(5, "a number has 1 to 3 digits", "a+1", "none", "a+12", "none", "a+123", "none", "a+1234", "5e", "a+000", "none",
                "a+0000", "5e", "a+b*123", "none", "a+b*1234", "7e");
        faults(5, "a sum is one term or two", "a+b", "none", "a+b+c", "none", "a+b+c+d", "5e", "a+b-c*d", "5e", "a+1+", "4t");
        faults(5, "with +, -, * or & between", "a^b+c", "none", "a^b-c", "none", "a^b*c", "none", "a^b&c", "none", "a^b^c", "3e",
                "a^b~c", "3e", "a^b=c", "3e", "a^b%c", "3e", "a^b,c", "3e", "a^b'c", "3e", "a^b.c", "3e", "a^b)c", "3e");
    }

    private static void testSigns() {
        faults(5, "'c' a test's sign, at the end of a text", "[a", "2c", "{123", "4c", "[a<1:|:a", "8c", "{a<1:|:1", "8c");
        faults(5, "'c' a test's sign is <, = or > alone", "[a<1:|:a>1]", "none", "{a=1:|:a=1}", "none", "[a>1:|:a<1]", "none",
                "[a+1", "2c", "[a;", "2c", "[a:", "2c", "[a?", "2c", "[a!", "2c", "[a]", "2c", "[ab", "2c", "[a1", "2c", "[a<1:|:a]", "8c",
                "[a<1:|:a:", "8c", "{a<1:|:a+", "8c");
        faults(5, "'c' also at a fourth digit ahead of it", "[123", "4c", "[1234<1", "4c", "[1234", "4c", "{0000=", "4c",
                "[a<1:|:1234<1]", "10c", "{a<1:|:0001", "10c", "[123<1:|:123<1]", "none");
    }

    private static void colons() {
        faults(5, "'d' a colon behind the first test, at the end of a text", "[a<1", "4d", "{a=b", "4d", "[123>456", "8d");
        faults(5, "'d' a colon alone", "[a<1;", "4d", "[a<1|", "4d", "[a<b+", "4d", "[a<b=", "4d", "{a<1}", "4d", "{a<b1", "4d");
        faults(5, "'d' at a fourth digit ahead of it", "[a<1234", "6d", "[a<1234:", "6d", "{a<0000", "6d", "[a<123:|:a<1]", "none");
        faults(5, "behind the second test there is no colon", "[a<1:|:a<1:", "10x");
    }

    private static void closers() {
        faults(5, "'x' the bracket at the end, at the end of a text", "[a<1:|:a<1", "10x", "{a<1:|:a<1", "10x");
        faults(5, "'x' a choice ends with ], a loop with }", "[a<1:|:a<1]", "none", "{a<1:|:a<1}", "none", "[a<1:|:a<1}", "10x",
                "{a<1:|:a<1]", "10x", "[a<1:|:a<1[", "10x", "{a<1:|:a<1{", "10x", "[a<1:|:a<1|", "10x", "[a<1:|:a<1;", "10x");
        faults(5, "'x' at a fourth digit ahead of it", "[a<1:|:a<1234]", "12x", "{a<1:|:a<0000}", "12x", "[a<1:|:a<123]", "none");
        faults(5, "'x' the inner bracket's own end", "[a=0:{b=0:|:b=0]|:a=0]", "15x", "{a=0:[b=0:|:b=0}|:a=0}", "15x");
    }

    private static void digits() {
        faults(5, "'n' a procedure's digit, at the end of a text", "@", "1n", "$", "1n", "!a;@", "4n");
        faults(5, "'n' digits are 0 to 5", "@0", "none", "@5", "none", "@6", "1n", "@9", "1n", "@/", "1n", "$0", "none", "$5", "none",
                "$6", "1n", "$9", "1n", "$/", "1n", "@a", "1n", "$:", "1n", "@;", "1n");
        faults(5, "a call has one digit", "@00", "2e", "$12", "2e");
        Script.promise(5, "the procedure need not be there", "text @5;$4", "faultKind = throws NoSuchElementException", "define = 0");
    }

    private static void ends() {
        faults(5, "'e' behind each statement of the text its end or ;", "a+1 ", "3e", "a+1b", "3e", "a-1a", "3e", "a^b!", "3e", "a~bc", "3e",
                "a~b1", "3e", "!aa", "2e", "?a1", "2e", "@0;!a", "none", "@0!a", "2e", "$0a", "2e", "[a<1:|:a<1]a", "11e",
                "{a<1:|:a<1}{", "11e", "[a<1:|:a<1];a+1", "none");
        faults(5, "'e' the ends of other rows are none of the text's", "!a|", "2e", "!a:", "2e", "!a]", "2e", "!a}", "2e", "!a/", "2e",
                "a+1]", "3e", "a~b|", "3e", "@0:", "2e", "[a<1:|:a<1]]", "11e", "[a<1:|:a<1]|", "11e");
    }

    private static void endsInRows() {
        faults(5, "'e' in a first row | or ;", "[a<1:!b", "7e", "[a<1:!b:", "7e", "[a<1:!b]", "7e", "[a<1:!b/", "7e", "[a<1:!b}", "7e",
                "{a<1:!b", "7e", "{a<1:!b:", "7e", "{a<1:!b/", "7e", "{a<1:b+1}", "8e", "[a<1:!b;!c|:a<1]", "none");
        faults(5, "'e' in a second row : or ;", "[a<1:|!b", "8e", "[a<1:|!b|", "8e", "[a<1:|!b]", "8e", "{a<1:|!b", "8e", "{a<1:|!b|", "8e",
                "{a<1:|!b}", "8e", "{a<1:|b+1}", "9e", "[a<1:|!b;!c:a<1]", "none");
        faults(5, "'e' behind a bracket within a row", "[a=0:[b=0:|:b=0]", "16e", "[a=0:[b=0:|:b=0]:", "16e", "{a=0:|{b=0:|:b=0}", "17e",
                "{a=0:|{b=0:|:b=0}|", "17e", "[a=0:[b=0:|:b=0];!c|:a=0]", "none");
    }

    private static void ownVariables() {
        faults(5, "'r' at the beginning of an update whose one term is its own variable", "a+a", "0r", "h-h", "0r", "c^c", "0r", "!b;a+a", "3r");
        faults(5, "'r' its own variable as the first of two terms", "a+a+1", "0r", "h-h*b", "0r", "c^c&9", "0r", "!b;a+a-2", "3r");
        faults(5, "'r' its own variable as the second of two terms", "a+1+a", "0r", "h-b*h", "0r", "c^9&c", "0r", "!b;a+2-a", "3r");
        faults(5, "'r' its own variable as both terms", "a+a+a", "0r");
        faults(5, "'r' in rows", "[a<1:b+b|:a<1]", "5r", "{a<1:|b+c;d-d:a<1}", "10r");
        faults(5, "a sum without this variable is none", "a+b+b", "none", "a+0", "none", "h-g", "none", "b+a*a", "none");
        faults(5, "a test can have one variable twice", "[a=a:|:b<b]", "none");
    }

    private static void ownSwaps() {
        faults(5, "'r' of a swap of a variable with itself, at the second one", "a~a", "2r", "h~h", "2r", "!b;c~c", "5r", "[a<1:b~b", "7r");
        faults(5, "a swap with another one is none", "a~b", "none", "b~a", "none", "g~h", "none");
        faults(5, "'r' at the second one, ahead of what comes behind it", "a~aa", "2r", "a~a]", "2r");
    }

    private static void within() {
        faults(5, "'m' at a bracket within 6 others that are open", SIX + "[", "30m", SIX + "{", "30m", SIX + "[a<1:|:a<1]", "30m",
                SIX + "!a;{", "33m", SIX + "|[", "31m");
        faults(5, "within 5 others a bracket can stand", FIVE + "[", "26t", FIVE + "{a", "27c", SIX, "30s", SIX + "!a", "32e");
        faults(5, "'m' in second rows too", "[0=0:|[0=0:|[0=0:|[0=0:|[0=0:|[0=0:|{", "36m", "[0=0:|[0=0:|[0=0:|[0=0:|[0=0:|{", "31t");
        faults(5, "brackets that are closed are not open", SIX + "|:0=0};{0=0", "41d", SIX + "|:0=0};{0=0:{", "42m",
                "[0=0:|:0=0];[0=0:|:0=0];[0=0:|:0=0];[0=0:|:0=0];[0=0:|:0=0]", "none");
        faults(5, "5 within one another have room", "[0=0:{0=0:[0=0:{0=0:[0=0:|:0=0]|:0=0}|:0=0]|:0=0}|:0=0]", "none");
        faults(5, "'m' where a statement could stand alone", SIX + "]", "30s", SIX + "a+[", "32t");
    }

    private static void firstFound() {
        faults(5, "of several the first one, as the text is read", "a;b~b", "1o", "a+a;b", "0r", "b;a+a", "1o", "!i;a+a", "1v",
                "[a:b<", "2c", "@6;;", "1n", "a~a;!", "2r", "!;a~a", "1v");
        faults(5, "an update is read to its end: a fault within it is found first", "a+a+", "4t", "a+a*i", "4t", "a+a-;", "4t");
        faults(5, "an update is read to its end: behind it comes its own variable's fault", "a+a;", "0r", "a+a]", "0r", "a+a*b*c", "0r",
                "a+a|b", "0r", "a+a;b+", "0r");
    }
}
