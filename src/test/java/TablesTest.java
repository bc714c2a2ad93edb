/** Promises 28 to 30: what procedures make of a variable. */
public final class TablesTest {
    public static void main(String[] args) {
        images();
        refusals();
        counts();
        nothingIsChanged();
        Script.end("TablesTest");
    }

    private static void images() {
        Script.run("images", "say a+1;b+a", "image 0 a 5 = 6", "image 0 a -1 = 0", "image 0 a 2147483647 = -2147483648",
                "image 0 b 5 = 6", "image 0 c 9 = 9", "set a 10", "image 0 b 5 = 16", "image 0 a 0 = 1", "image 0 h -3 = -3",
                "get a = 10", "get b = 0");
        Script.run("images with the stack", "say !a", "say ?a", "set a 6", "run 0 true = 1", "image 1 a 0 = 6",
                "image 1 a 1 = throws NoSuchElementException", "image 1 b 3 = 3", "image 0 a 7 = 0", "stacked = 1", "stackAt 0 = 6");
        Script.run("images with calls", "say a+3", "say @0;$0;@0", "say @5", "image 1 a 4 = 7", "image 2 a 4 = throws NoSuchElementException");
    }

    private static void refusals() {
        Script.run("refusals", "image 0 a 0 = throws IndexOutOfBoundsException", "works 0 a = throws IndexOutOfBoundsException",
                "alike 0 a = throws IndexOutOfBoundsException", "image 0 i 0 = throws IndexOutOfBoundsException",
                "works -1 i = throws IndexOutOfBoundsException", "alike 6 i = throws IndexOutOfBoundsException", "say a+1",
                "image -1 a 0 = throws IndexOutOfBoundsException", "image 1 a 0 = throws IndexOutOfBoundsException",
                "works 1 a = throws IndexOutOfBoundsException", "works -1 a = throws IndexOutOfBoundsException",
                "alike 1 a = throws IndexOutOfBoundsException", "alike -1 a = throws IndexOutOfBoundsException",
                "image 0 i 0 = throws IllegalArgumentException", "image 0 ` 0 = throws IllegalArgumentException",
                "works 0 i = throws IllegalArgumentException", "works 0 A = throws IllegalArgumentException",
                "alike 0 i = throws IllegalArgumentException", "alike 0 #0 = throws IllegalArgumentException", "say ?b",
                "image 1 a 0 = throws NoSuchElementException", "image 1 i 0 = throws IllegalArgumentException");
    }

    private static void counts() {
        Script.run("works", "say [a<4:a+8|:a>7]", "works 0 a = 8", "alike 0 a = 1", "works 0 b = 16", "alike 0 b = 1", "image 0 a 3 = 11",
                "image 0 a 4 = 4", "image 0 a 8 = throws NoSuchElementException", "set a 9", "works 0 b = 0", "alike 0 b = 0");
        Script.run("all alike", "say a~b", "works 0 a = 16", "alike 0 a = 16", "image 0 a 9 = 0", "image 0 b 9 = 0", "works 0 b = 16",
                "alike 0 b = 16", "set b 3", "image 0 a 9 = 3");
        Script.run("alike by fours", "say b^a&12;a~b", "works 0 a = 16", "alike 0 a = 4", "image 0 a 7 = 4");
        Script.run("alike unevenly", "say [a<5:b+7|b+a:a<5];a~b", "works 0 a = 16", "alike 0 a = 6", "image 0 a 2 = 7", "image 0 a 7 = 7");
        Script.run("the last are alike", "say [a>5:b+1|b-a:a>5];a~b", "works 0 a = 16", "alike 0 a = 10");
        Script.run("none works", "say ?h", "works 0 h = 0", "alike 0 h = 0", "works 0 a = 0", "alike 0 a = 0");
        Script.run("one works", "say !a", "say ?a", "set a 4", "run 0 true = 1", "works 1 a = 1", "alike 1 a = 1", "works 0 a = 16",
                "alike 0 a = 16");
        Script.run("the values are 0 to 15", "say [a=15:b+1|[a=0:b+2|!c:a=0]:b=1]", "works 0 a = 16", "say [a=0:!b|?b:a=0]",
                "works 1 a = 1", "say [a=15:!b|?b:a=15]", "works 2 a = 1", "say [a=16:!b|?b:a=16]", "works 3 a = 0",
                "image 3 a 16 = 16");
        Script.run("forward alone", "say [a=1:b+1|:b=1]", "set b 1", "works 0 a = 0", "set b 0", "works 0 a = 16");
    }

    private static void nothingIsChanged() {
        Script.run("nothing is changed", "say a+1;!a;b+2;!b", "say ?c;?d", "set a 3", "run 0 true = 4", "start 1 true = 0", "go 1 false = 1",
                "place = 1", "get c = 2", "works 0 a = 16", "alike 0 b = 16", "image 0 e 4 = 4", "works 1 a = 0", "place = 1", "inside = 1",
                "state = g", "stacked = 1", "stackAt 0 = 4", "get a = 0", "get c = 2", "steps = 5", "go 1 false = 1", "state = e",
                "get d = 4", "start 1 true = 0", "go 1 false = 0", "state = b", "why 0 = z", "works 0 a = 16", "alike 0 a = 16",
                "state = b", "why 0 = z", "whyNumber 0 = 2");
    }
}
