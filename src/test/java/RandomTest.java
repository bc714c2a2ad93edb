import java.util.ArrayList;
import java.util.Arrays;
import java.util.List;
import java.util.Random;

/** Texts and runs that are drawn from a fixed seed, against the model of the tests. */
public final class RandomTest {
    private static final Random DRAW = new Random(20261119L);
    private static final String SIGNS = "abch+-^~*&;!?@$[]{}:|<=>0123456789/i";

    public static void main(String[] args) {
        for (int i = 0; i < 6000; i++) {
            faultOf(spoilt(text(60)));
            faultOf(row(3, 60));
        }
        for (int i = 0; i < 3000; i++) {
            faultOf(noise());
            backOf(text(60));
        }
        for (int i = 0; i < 2500; i++) {
            runs();
        }
        for (int i = 0; i < 150; i++) {
            tables();
        }
        Script.end("RandomTest");
    }

    private static char of(String signs) {
        return signs.charAt(DRAW.nextInt(signs.length()));
    }

    // ---- texts

    private static String number() {
        int kind = DRAW.nextInt(12);
        return kind == 0 ? "0" + DRAW.nextInt(10) : kind == 1 ? "" + DRAW.nextInt(1000) : "" + DRAW.nextInt(4);
    }

    private static String term(String variables) {
        return variables.isEmpty() || DRAW.nextInt(3) == 0 ? number() : "" + of(variables);
    }

    private static String test() {
        return term("abcd") + of("<=>") + term("abcd");
    }

    private static String simple() {
        int kind = DRAW.nextInt(14);
        if (kind < 2) {
            return "" + of("!?") + of("abcd");
        }
        if (kind < 4) {
            return "" + of("@@$") + of("01201234");
        }
        char variable = of("abcdefgh");
        String others = "abcdefgh".replace("" + variable, "");
        if (kind == 4) {
            return variable + "~" + of(others);
        }
        return variable + "" + of("+-^") + term(others) + (DRAW.nextBoolean() ? of("+-*&") + term(others) : "");
    }

    /** A statement; those with tests often with such as hold where they must. */
    private static String statement(int open, int room) {
        int kind = DRAW.nextInt(10);
        if (open == 0 || room < 12 || kind > 4) {
            return simple();
        }
        if (kind == 0) {
            char variable = of("abcd");
            return "{" + variable + "=0:" + variable + "+1" + (DRAW.nextBoolean() ? ";e^" + variable : "") + "|"
                    + (DRAW.nextBoolean() ? "f+" + variable : "") + ":" + variable + "=" + (1 + DRAW.nextInt(4)) + "}";
        }
        String first = row(open - 1, room / 2 - 5);
        String second = row(open - 1, room / 2 - 5);
        String begin = test();
        String end = kind < 4 ? begin : test();
        return kind == 1 ? "{" + begin + ":" + first + "|" + second + ":" + end + "}"
                : "[" + begin + ":" + first + "|" + second + ":" + end + "]";
    }

    private static String row(int open, int room) {
        StringBuilder row = new StringBuilder();
        int count = DRAW.nextInt(5);
        for (int i = 0; i < count; i++) {
            String next = statement(open, room - row.length());
            if (row.length() + 1 + next.length() <= room) {
                row.append(row.length() > 0 ? ";" : "").append(next);
            }
        }
        return row.toString();
    }

    private static String text(int room) {
        String text = row(4, room);
        return text.isEmpty() ? row(4, room) : text;
    }

    private static String spoilt(String text) {
        StringBuilder signs = new StringBuilder(text);
        for (int i = DRAW.nextInt(3); i >= 0; i--) {
            int at = DRAW.nextInt(signs.length() + 1);
            int kind = DRAW.nextInt(4);
            if (kind == 0 && signs.length() < 60) {
                signs.insert(at, of(SIGNS));
            } else if (kind == 1) {
                signs.setLength(at);
            } else if (at < signs.length()) {
                if (kind == 2) {
                    signs.deleteCharAt(at);
                } else {
                    signs.setCharAt(at, of(SIGNS));
                }
            }
        }
        return signs.toString();
    }

    private static String noise() {
        StringBuilder signs = new StringBuilder();
        String[] parts = {"[a<1:", "{0=b:", "|", ":c=2]", ":1>d}", ";", "a+1", "b-c*d", "e~f", "!g", "?h", "@4", "$0", "a^a", "12", "0"};
        for (int i = DRAW.nextInt(8); i > 0; i--) {
            signs.append(DRAW.nextBoolean() ? "[0=0:" : "{0=0:|");
        }
        while (signs.length() < 50 && DRAW.nextInt(12) > 0) {
            signs.append(parts[DRAW.nextInt(parts.length)]);
        }
        return signs.toString();
    }

    private static void faultOf(String text) {
        Uncomputery object = new Uncomputery();
        String cut = text.substring(0, Math.min(60, text.length()));
        Script.type(object, cut);
        String due = Model.fault(cut);
        Script.same("fault of " + cut, Script.faultOf(object), due);
        Script.same("define " + cut, Script.answer(object, "define"), due.equals("none") ? "0" : "throws IllegalArgumentException");
        Script.same("left of " + cut, object.wipe(), due.equals("none") ? 0 : cut.length());
    }

    private static void backOf(String text) {
        Uncomputery object = new Uncomputery();
        Script.say(object, text);
        object.invert(0);
        Model.Tree tree = new Model.Tree(text);
        Script.same("back of " + text, Script.textOf(object, 1), Model.back(tree.row));
        Script.same("size of " + text, object.size(0), tree.size);
        Script.same("size back of " + text, object.size(1), tree.size);
        Script.same("isSound of " + text, object.isSound(), true);
    }

    // ---- runs

    private static Uncomputery object;
    private static List<Model.Tree> trees;
    private static String texts;
    private static int[] values;
    private static List<Integer> stack;

    private static void prepare() {
        object = new Uncomputery();
        trees = new ArrayList<>();
        texts = "";
        values = new int[8];
        stack = new ArrayList<>();
        int count = 1 + DRAW.nextInt(3);
        for (int i = 0; i < count; i++) {
            String text = text(count == 1 ? 60 : 40);
            Script.say(object, text);
            trees.add(new Model.Tree(text));
            texts += text + "  ";
        }
        int height = DRAW.nextInt(6) == 0 ? 18 + DRAW.nextInt(3) : DRAW.nextInt(3);
        if (object.procedures() < 6 && height > 0) {
            int put = Script.say(object, "!h");
            trees.add(new Model.Tree("!h"));
            for (int i = 0; i < height; i++) {
                int value = DRAW.nextInt(9) - 4;
                object.set('h', value);
                object.run(put, true);
                stack.add(value);
            }
        }
        for (int i = 0; i < 8; i++) {
            values[i] = DRAW.nextInt(3) > 0 ? 0 : DRAW.nextInt(10) == 0 ? DRAW.nextInt() : DRAW.nextInt(7) - 2;
            object.set((char) ('a' + i), values[i]);
        }
    }

    private static String seen() {
        int[] now = new int[8];
        for (int i = 0; i < 8; i++) {
            now[i] = object.get((char) ('a' + i));
        }
        List<Integer> stacked = new ArrayList<>();
        for (int i = object.stacked() - 1; i >= 0; i--) {
            stacked.add(object.stackAt(i));
        }
        return Arrays.toString(now) + stacked;
    }

    private static String where() {
        return object.inside() + " " + object.place() + " " + object.isAhead() + " " + object.depth();
    }

    private static String why() {
        String why = "" + object.why(0) + object.whyNumber(0);
        return object.why(0) == 't' ? why + object.why(1) + object.whyNumber(1) : why;
    }

    private static void runs() {
        prepare();
        int procedure = DRAW.nextInt(trees.size());
        boolean isAhead = DRAW.nextInt(3) > 0;
        String name = texts + "from " + Arrays.toString(values) + stack + " in " + procedure + (isAhead ? "" : " back");
        Model.Walk walk = new Model.Walk(trees, values, stack, 500);
        boolean isThrough = walk.walk(procedure, isAhead);
        steps(name, walk, isThrough, procedure, isAhead);
        turned(name, procedure, isAhead);
        Script.same(name + ": run", Script.answer(object, "run " + procedure + " " + isAhead),
                isThrough ? "" + walk.steps : "throws UnsupportedOperationException");
        Script.same(name + ": what it made", seen(), isThrough ? walk.seen() : Arrays.toString(values) + stack);
        if (isThrough) {
            backward(name, walk, procedure, isAhead);
        }
    }

    /** What came of a run goes back, by running it backward and by running the text backward. */
    private static void backward(String name, Model.Walk walk, int procedure, boolean isAhead) {
        Script.same(name + ": run back", object.run(procedure, !isAhead), walk.steps);
        Script.same(name + ": what was", seen(), Arrays.toString(values) + stack);
        if (object.procedures() < 6) {
            int inverse = object.invert(procedure);
            Script.same(name + ": run of the text backward", object.run(inverse, !isAhead), walk.steps);
            Script.same(name + ": what that made", seen(), walk.seen());
            object.run(inverse, isAhead);
        }
    }

    private static void steps(String name, Model.Walk walk, boolean isThrough, int procedure, boolean isAhead) {
        object.start(procedure, isAhead);
        long before = object.steps();
        int single = Math.min(walk.steps, 15);
        for (int i = 0; i < single; i++) {
            String now = where();
            String due = walk.notes.get(i);
            Script.same(name + ": step " + i, now, due);
            Script.same(name + ": state at " + i, object.state(), 'g');
            Script.same(name + ": done at " + i, object.go(1, false), 1);
        }
        if (single < walk.steps) {
            Script.same(name + ": the other steps", object.go(500 - single, false), walk.steps - single);
        } else if (!isThrough) {
            Script.same(name + ": no more steps", object.go(1, false), 0);
        }
        Script.same(name + ": steps", object.steps() - before, (long) walk.steps);
        Script.same(name + ": the end", object.state(), isThrough ? 'e' : walk.why.equals("most") ? 'g' : 'b');
        Script.same(name + ": seen", seen(), walk.seen());
        if (object.state() == 'b') {
            Script.same(name + ": why", why(), walk.why);
            Script.same(name + ": where it broke", where(), walk.notes.get(walk.notes.size() - 1));
        }
        if (isThrough) {
            int end = isAhead ? trees.get(procedure).size : 0;
            Script.same(name + ": where it ended", where(), procedure + " " + end + " " + isAhead + " 0");
        }
    }

    /** Turned, a run undoes all that it did; the calls that are open are left without a step. */
    private static void turned(String name, int procedure, boolean isAhead) {
        int open = object.depth();
        int done = object.go(500, true);
        Script.same(name + ": turned, it ends", object.state(), 'e');
        int end = isAhead ? 0 : trees.get(procedure).size;
        Script.same(name + ": turned, where", where(), procedure + " " + end + " " + !isAhead + " 0");
        Script.same(name + ": turned, seen", seen(), Arrays.toString(values) + stack);
        long all = object.steps();
        object.start(procedure, isAhead);
        Script.same(name + ": as many steps", object.go(500, false) - open, done);
        int half = object.go(1 + DRAW.nextInt(20), true);
        int again = object.go(1 + DRAW.nextInt(9), true);
        int last = object.go(500, true);
        Script.same(name + ": turned thrice, it ends", object.state(), 'e');
        Script.same(name + ": turned thrice, seen", seen(), Arrays.toString(values) + stack);
        Script.same(name + ": all steps", object.steps(), all + done + open + half + again + last);
    }

    private static void tables() {
        prepare();
        int procedure = DRAW.nextInt(trees.size());
        char variable = of("abcdh");
        int works = 0;
        int most = 0;
        int[] results = new int[16];
        String name = texts + "from " + Arrays.toString(values) + stack + " in " + procedure + " of " + variable;
        String call = "image " + procedure + " " + variable + " ";
        for (int value = 0; value < 16; value++) {
            int[] changed = values.clone();
            changed[variable - 'a'] = value;
            Model.Walk walk = new Model.Walk(trees, changed, stack, 500);
            boolean isThrough = walk.walk(procedure, true);
            Script.same(name + ": image of " + value, Script.answer(object, call + value),
                    isThrough ? "" + walk.values[variable - 'a'] : "throws NoSuchElementException");
            if (isThrough) {
                results[works++] = walk.values[variable - 'a'];
            }
        }
        for (int i = 0; i < works; i++) {
            int same = 0;
            for (int j = 0; j < works; j++) {
                same += results[j] == results[i] ? 1 : 0;
            }
            most = Math.max(most, same);
        }
        Script.same(name + ": works", object.works(procedure, variable), works);
        Script.same(name + ": alike", object.alike(procedure, variable), most);
        Script.same(name + ": seen", seen(), Arrays.toString(values) + stack);
    }
}
