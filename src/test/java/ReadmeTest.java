/** What README.md shows comes out as it says. */
public final class ReadmeTest {

    public static void main(String[] args) {
        Script.run("README.md", "text {a=0:a+1|b+2:a=3}", "define = 0", "run 0 true = 11", "get a = 3", "get b = 4", "start 0 false = 5",
                "go 4 false = 4", "state = g", "go 500 true = 4", "state = e", "place = 5", "invert 0 = 1", "textOf 1 = {a=3:a-1|b-2:a=0}",
                "gate 1 1 = 1", "gate 0 6 = 2", "through 5 = 6", "backThrough 6 = 5", "made = 4", "leastGates = 2", "pebbles 4 3 = 9");
        Script.run("README.md, statements", "say a+b*2;a-1;a^b;a~b;!a;?a;@0;$0", "size 0 = 8", "say [a<1:b+1|b-1:b>0]", "size 1 = 5",
                "run 1 true = 3", "get b = 1", "say {a=0:a+1|b+1:a=9}", "size 2 = 5", "run 2 true = 35", "get a = 9", "get b = 9",
                "set b 1", "run 1 true = 3", "get b = 0");
        Script.end("ReadmeTest");
    }
}
