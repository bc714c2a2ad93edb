import java.util.ArrayList;
import java.util.List;

/** Promises 43 to 47: what must be kept beside images, and pebbles on a line. */
public final class ForgettingTest {
    public static void main(String[] args) {
        images();
        garbage();
        pebbles();
        fewestPebbles();
        Script.end("ForgettingTest");
    }

    private static void images() {
        Script.run("images", "garbage = 3", "forgotten = 0.875", "setImage 0 5 = 0", "setImage 0 7 = 5", "setImage 7 7 = 0",
                "setImage 7 0 = 7", "setImage 0 0 = 7", "setImage -1 0 = throws IllegalArgumentException",
                "setImage 8 0 = throws IllegalArgumentException", "setImage 0 -1 = throws IllegalArgumentException",
                "setImage 0 8 = throws IllegalArgumentException", "setImage 2147483647 2147483647 = throws IllegalArgumentException",
                "setImage 3 5 = 0", "garbage = 3", "forgotten = 0.75");
    }

    private static void function(int[] images, int bits, String share) {
        List<String> lines = new ArrayList<>();
        for (int value = 0; value < 8; value++) {
            lines.add("setImage " + value + " " + images[value] + " = 0");
        }
        lines.add("garbage = " + bits);
        lines.add("forgotten = " + share);
        for (int value = 0; value < 8; value++) {
            lines.add("setImage " + value + " 0 = " + images[value]);
        }
        Script.run("garbage of " + java.util.Arrays.toString(images), lines.toArray(new String[0]));
    }

    private static void garbage() {
        function(new int[] {0, 1, 2, 3, 4, 5, 6, 7}, 0, "0.0");
        function(new int[] {7, 6, 5, 4, 3, 2, 1, 0}, 0, "0.0");
        function(new int[] {0, 1, 2, 3, 4, 5, 6, 6}, 1, "0.125");
        function(new int[] {0, 0, 1, 1, 2, 2, 3, 3}, 1, "0.5");
        function(new int[] {7, 7, 7, 1, 2, 3, 4, 5}, 2, "0.25");
        function(new int[] {7, 7, 7, 7, 2, 3, 4, 5}, 2, "0.375");
        function(new int[] {1, 1, 1, 1, 2, 2, 2, 2}, 2, "0.75");
        function(new int[] {7, 7, 7, 7, 7, 3, 4, 5}, 3, "0.5");
        function(new int[] {5, 5, 5, 5, 5, 5, 5, 5}, 3, "0.875");
        function(new int[] {5, 5, 5, 5, 5, 5, 5, 4}, 3, "0.75");
        function(new int[] {0, 3, 0, 3, 0, 6, 5, 1}, 2, "0.375");
        Script.run("garbage as images change", "setImage 1 1", "setImage 2 2", "setImage 3 3", "setImage 4 4", "setImage 5 5",
                "setImage 6 6", "garbage = 1", "garbage = 1", "forgotten = 0.125", "setImage 7 7", "garbage = 0", "forgotten = 0.0",
                "garbage = 0", "setImage 0 7 = 0", "garbage = 1", "forgotten = 0.125", "setImage 1 7 = 1", "garbage = 2",
                "forgotten = 0.25", "setImage 0 0 = 7", "forgotten = 0.125", "garbage = 1");
    }

    private static void pebbles() {
        Script.run("pebbles", "pebbles 1 1 = 1", "pebbles 1 10 = 1", "pebbles 2 1 = throws NoSuchElementException", "pebbles 2 2 = 3",
                "pebbles 2 10 = 3", "pebbles 3 2 = throws NoSuchElementException", "pebbles 3 3 = 5", "pebbles 4 2 = throws NoSuchElementException",
                "pebbles 4 3 = 9", "pebbles 4 4 = 7", "pebbles 5 3 = throws NoSuchElementException", "pebbles 8 3 = throws NoSuchElementException",
                "pebbles 9 4 = throws NoSuchElementException", "pebbles 10 4 = throws NoSuchElementException", "pebbles 10 10 = 19",
                "pebbles 10 1 = throws NoSuchElementException", "pebbles 9 9 = 17", "pebbles 9 10 = 17",
                "pebbles 0 1 = throws IllegalArgumentException", "pebbles 11 5 = throws IllegalArgumentException",
                "pebbles 5 0 = throws IllegalArgumentException", "pebbles 5 11 = throws IllegalArgumentException",
                "pebbles -1 -1 = throws IllegalArgumentException", "pebbles 0 0 = throws IllegalArgumentException",
                "pebbles 10 0 = throws IllegalArgumentException", "pebbles 2147483647 1 = throws IllegalArgumentException",
                "pebbles 4 3 = 9");
    }

    private static void fewestPebbles() {
        Script.run("fewest pebbles", "fewestPebbles 1 = 1", "fewestPebbles 2 = 2", "fewestPebbles 3 = 3", "fewestPebbles 4 = 3",
                "fewestPebbles 5 = 4", "fewestPebbles 6 = 4", "fewestPebbles 7 = 4", "fewestPebbles 8 = 4", "fewestPebbles 9 = 5",
                "fewestPebbles 10 = 5", "fewestPebbles 0 = throws IllegalArgumentException",
                "fewestPebbles 11 = throws IllegalArgumentException", "fewestPebbles -2147483648 = throws IllegalArgumentException",
                "fewestPebbles 1 = 1", "fewestPebbles 10 = 5");
    }
}
