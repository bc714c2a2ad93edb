import java.util.ArrayDeque;
import java.util.ArrayList;
import java.util.Arrays;
import java.util.Collections;
import java.util.Deque;
import java.util.HashMap;
import java.util.HashSet;
import java.util.List;
import java.util.Map;
import java.util.Random;
import java.util.Set;

/** Circuits, functions and pebbles that are drawn from a fixed seed, or gone through whole, against plain models. */
public final class RandomCircuitsTest {
    private static final Random DRAW = new Random(51L);
    private static final int[] KINDS = {0, 2, 4, 6, 8, 9, 12, 13, 16, 17, 18, 19};

    public static void main(String[] args) {
        Map<String, Integer> least = allLeast();
        Script.same("what circuits can do", least.size(), 40320);
        for (int i = 0; i < 400; i++) {
            circuit(least);
        }
        leastOfAll(least, 60);
        functions();
        pebbles();
        Script.end("RandomCircuitsTest");
    }

    private static String join(boolean[] bits) {
        StringBuilder text = new StringBuilder();
        for (boolean bit : bits) {
            text.append(bit ? '1' : '0');
        }
        return text.toString();
    }

    /** What a row of gates makes of a value, line by line. */
    private static int pass(List<Integer> gates, int value) {
        boolean[] lines = {value % 2 == 1, value / 2 % 2 == 1, value / 4 == 1};
        for (int gate : gates) {
            boolean isTurned = true;
            for (int line = 0; line < 3; line++) {
                if (gate % 8 / (1 << line) % 2 == 1 && !lines[line]) {
                    isTurned = false;
                }
            }
            lines[gate / 8] ^= isTurned;
        }
        return Integer.parseInt(new StringBuilder(join(lines)).reverse().toString(), 2);
    }

    private static int[] outputs(List<Integer> gates) {
        int[] outputs = new int[8];
        for (int value = 0; value < 8; value++) {
            outputs[value] = pass(gates, value);
        }
        return outputs;
    }

    private static Map<String, Integer> allLeast() {
        Map<String, Integer> least = new HashMap<>();
        Deque<int[]> waiting = new ArrayDeque<>();
        int[] none = {0, 1, 2, 3, 4, 5, 6, 7};
        least.put(Arrays.toString(none), 0);
        waiting.add(none);
        int[][] kinds = new int[KINDS.length][];
        for (int i = 0; i < KINDS.length; i++) {
            kinds[i] = outputs(Collections.singletonList(KINDS[i]));
        }
        while (!waiting.isEmpty()) {
            int[] now = waiting.remove();
            int gates = least.get(Arrays.toString(now));
            for (int[] kind : kinds) {
                int[] next = new int[8];
                for (int value = 0; value < 8; value++) {
                    next[value] = kind[now[value]];
                }
                if (least.putIfAbsent(Arrays.toString(next), gates + 1) == null) {
                    waiting.add(next);
                }
            }
        }
        return least;
    }

    /** The least gates of some of all that circuits can do, each done by the circuit that the rule makes. */
    private static void leastOfAll(Map<String, Integer> least, int stride) {
        int[] found = new int[9];
        for (Map.Entry<String, Integer> entry : least.entrySet()) {
            int fewest = entry.getValue();
            found[fewest]++;
            if (found[fewest] % stride == 1 || fewest < 2) {
                Uncomputery object = new Uncomputery();
                int[] outputs = new int[8];
                for (int value = 0; value < 8; value++) {
                    outputs[value] = entry.getKey().charAt(1 + 3 * value) - '0';
                }
                for (int gate : made(outputs)) {
                    object.gate(gate / 8, gate % 8);
                }
                Script.same("leastGates of " + entry.getKey(), object.leastGates(), fewest);
            }
        }
        Script.same("how many of each", Arrays.toString(found), "[1, 12, 102, 625, 2780, 8921, 17049, 10253, 577]");
    }

    private static void circuit(Map<String, Integer> least) {
        Uncomputery object = new Uncomputery();
        List<Integer> gates = new ArrayList<>();
        int count = DRAW.nextInt(25);
        int kinds = DRAW.nextBoolean() ? 12 : 4;
        for (int i = 0; i < count; i++) {
            int gate = KINDS[(DRAW.nextInt(kinds) * 5 + 1) % 12];
            gates.add(gate);
            object.gate(gate / 8, gate % 8);
        }
        int[] outputs = outputs(gates);
        String name = gates.toString();
        for (int value = 0; value < 8; value++) {
            Script.same(name + ": through " + value, object.through(value), outputs[value]);
            Script.same(name + ": backThrough " + outputs[value], object.backThrough(outputs[value]), value);
        }
        cycles(name, object, outputs);
        Script.same(name + ": leastGates", object.leastGates(), least.get(Arrays.toString(outputs)));
        List<Integer> made = made(outputs);
        Script.same(name + ": made", object.made(), made.size());
        for (int i = 0; i < made.size(); i++) {
            Script.same(name + ": madeAt " + i, object.madeAt(i), made.get(i));
        }
        Script.same(name + ": does the same", Arrays.toString(outputs(made)), Arrays.toString(outputs));
        Script.same(name + ": isSound", object.isSound(), true);
        if (DRAW.nextBoolean()) {
            Collections.reverse(gates);
            Script.same(name + ": turnRound", object.turnRound(), gates.size());
        }
        List<Integer> simple = simplified(gates);
        Script.same(name + ": simplify", object.simplify(), gates.size() - simple.size());
        Script.same(name + ": gates left", object.gates(), simple.size());
        for (int i = simple.size() - 1; i >= 0; i--) {
            Script.same(name + ": gate " + i, object.dropGate(), simple.get(i));
        }
    }

    private static void cycles(String name, Uncomputery object, int[] outputs) {
        Set<Set<Integer>> cycles = new HashSet<>();
        for (int value = 0; value < 8; value++) {
            Set<Integer> cycle = new HashSet<>();
            for (int now = value; cycle.add(now); now = outputs[now]) {
                continue;
            }
            cycles.add(cycle);
        }
        Script.same(name + ": cycles", object.cycles(), cycles.size());
        int[] none = {0, 1, 2, 3, 4, 5, 6, 7};
        int[] now = outputs.clone();
        int times = 1;
        while (!Arrays.equals(now, none)) {
            for (int value = 0; value < 8; value++) {
                now[value] = outputs[now[value]];
            }
            times++;
        }
        Script.same(name + ": order", object.order(), times);
    }

    private static List<Integer> made(int[] outputs) {
        int[] now = outputs.clone();
        List<Integer> gates = new ArrayList<>();
        for (int value = 0; value < 8; value++) {
            while (now[value] != value) {
                int lacking = value & ~now[value];
                int wrong = lacking != 0 ? lacking : now[value] & ~value;
                int gate = 8 * Integer.numberOfTrailingZeros(wrong) + (lacking != 0 ? now[value] : value);
                gates.add(0, gate);
                for (int i = 0; i < 8; i++) {
                    now[i] = pass(Collections.singletonList(gate), now[i]);
                }
            }
        }
        return gates;
    }

    private static boolean isFree(int one, int other) {
        return (one % 8 >> other / 8 & 1) == 0 && (other % 8 >> one / 8 & 1) == 0;
    }

    private static List<Integer> simplified(List<Integer> gates) {
        for (int i = 0; i < gates.size(); i++) {
            int j = i + 1;
            while (j < gates.size() && !gates.get(j).equals(gates.get(i)) && isFree(gates.get(i), gates.get(j))) {
                j++;
            }
            if (j < gates.size() && gates.get(j).equals(gates.get(i))) {
                List<Integer> left = new ArrayList<>(gates);
                left.remove(j);
                left.remove(i);
                return simplified(left);
            }
        }
        return gates;
    }

    private static void functions() {
        for (int i = 0; i < 300; i++) {
            Uncomputery object = new Uncomputery();
            int[] images = new int[8];
            int most = 1;
            Set<Integer> met = new HashSet<>();
            int range = 1 + DRAW.nextInt(8);
            for (int value = 0; value < 8; value++) {
                images[value] = DRAW.nextInt(range);
                object.setImage(value, images[value]);
                met.add(images[value]);
            }
            for (int image : images) {
                int same = 0;
                for (int other : images) {
                    same += other == image ? 1 : 0;
                }
                most = Math.max(most, same);
            }
            String name = Arrays.toString(images);
            Script.same(name + ": garbage", object.garbage(), most == 1 ? 0 : most == 2 ? 1 : most <= 4 ? 2 : 3);
            Script.same(name + ": forgotten", object.forgotten(), (8 - met.size()) / 8.0f);
        }
    }

    /** The fewest moves by widening the set of all lines of pebbles that can be reached. */
    private static int fewestMoves(int places, int pebbles) {
        Set<Integer> reached = new HashSet<>(Collections.singleton(0));
        for (int moves = 0; true; moves++) {
            if (reached.contains(1 << places - 1)) {
                return moves;
            }
            Set<Integer> next = new HashSet<>(reached);
            for (int line : reached) {
                for (int place = 1; place <= places; place++) {
                    int other = line ^ 1 << place - 1;
                    if ((place == 1 || (line >> place - 2 & 1) == 1) && Integer.bitCount(other) <= pebbles) {
                        next.add(other);
                    }
                }
            }
            if (next.size() == reached.size()) {
                return -1;
            }
            reached = next;
        }
    }

    private static void pebbles() {
        Uncomputery object = new Uncomputery();
        for (int places = 1; places <= 10; places++) {
            int fewest = 0;
            for (int pebbles = 10; pebbles >= 1; pebbles--) {
                int due = fewestMoves(places, pebbles);
                fewest = due >= 0 ? pebbles : fewest;
                Script.same("pebbles " + places + " " + pebbles, Script.answer(object, "pebbles " + places + " " + pebbles),
                        due >= 0 ? "" + due : "throws NoSuchElementException");
            }
            Script.same("fewestPebbles " + places, object.fewestPebbles(places), fewest);
        }
    }
}
