import java.util.ArrayList;
import java.util.List;

/** The boundary cases of promises 43 to 47, a test for each sentence: images, what is forgotten, and pebbles. */
public final class EdgesOfForgettingTest {
    private static final String BAD = "throws IllegalArgumentException";
    private static final String CANNOT = "throws NoSuchElementException";

    public static void main(String[] args) {
        setImage();
        garbage();
        forgotten();
        pebblesOutOfRange();
        pebbles();
        pebblesThatCannot();
        fewestPebbles();
        Script.allPromised(43, 47);
        Script.end("EdgesOfForgettingTest");
    }

    private static void setImage() {
        Script.promise(43, "images are 0 at first", "setImage 0 1 = 0", "setImage 1 1 = 0", "setImage 2 1 = 0", "setImage 3 1 = 0",
                "setImage 4 1 = 0", "setImage 5 1 = 0", "setImage 6 1 = 0", "setImage 7 1 = 0");
        Script.promise(43, "the first value is 0", "setImage 0 5 = 0", "setImage 0 0 = 5");
        Script.promise(43, "the last value is 7", "setImage 7 5 = 0", "setImage 7 0 = 5");
        Script.promise(43, "value -1 is out of range", "setImage -1 0 = " + BAD, "setImage -2147483648 0 = " + BAD);
        Script.promise(43, "value 8 is out of range", "setImage 8 0 = " + BAD, "setImage 2147483647 0 = " + BAD);
        Script.promise(43, "the least image is 0", "setImage 3 7 = 0", "setImage 3 0 = 7", "setImage 3 7 = 0");
        Script.promise(43, "the greatest image is 7", "setImage 3 7 = 0", "setImage 3 7 = 7");
        Script.promise(43, "image -1 is out of range", "setImage 0 -1 = " + BAD, "setImage 0 -2147483648 = " + BAD);
        Script.promise(43, "image 8 is out of range", "setImage 0 8 = " + BAD, "setImage 0 2147483647 = " + BAD);
        Script.promise(43, "both out of range", "setImage -1 8 = " + BAD, "setImage 8 -1 = " + BAD);
        Script.promise(43, "returns the one before, of this value", "setImage 1 4 = 0", "setImage 2 5 = 0", "setImage 1 6 = 4",
                "setImage 2 7 = 5", "setImage 1 0 = 6");
        Script.promise(43, "a call that was refused sets none", "setImage 1 4 = 0", "setImage 1 8 = " + BAD, "setImage 1 -1 = " + BAD,
                "setImage 1 0 = 4");
    }

    /** The garbage and the share of an object with these images. */
    private static void images(String sentence, String images, int garbage, String forgotten) {
        List<String> lines = new ArrayList<>();
        for (int value = 0; value < images.length(); value++) {
            lines.add("setImage " + value + " " + images.charAt(value));
        }
        lines.add("garbage = " + garbage);
        Script.promise(44, sentence, lines.toArray(new String[0]));
        lines.set(lines.size() - 1, "forgotten = " + forgotten);
        Script.promise(45, sentence, lines.toArray(new String[0]));
    }

    private static void garbage() {
        Script.promise(44, "3 bits at first, as all 8 images are 0", "garbage = 3");
        images("no bits if no two images are alike", "01234567", 0, "0.0");
        images("no bits if no two images are alike, in another order", "70615243", 0, "0.0");
        images("1 bit for 2 that are alike", "01234566", 1, "0.125");
        images("1 bit for 2 that are alike, the first and the last value", "51234605", 1, "0.125");
        images("1 bit for 4 times 2 that are alike", "00112233", 1, "0.5");
        images("2 bits for 3 that are alike", "01234555", 2, "0.25");
        images("2 bits for 4 that are alike", "01235555", 2, "0.375");
        images("2 bits for twice 4 that are alike", "77770000", 2, "0.75");
        images("3 bits for 5 that are alike", "01244444", 3, "0.5");
        images("3 bits for 6 that are alike", "12000000", 3, "0.625");
        images("3 bits for 7 that are alike", "11111117", 3, "0.75");
        images("3 bits for 8 that are alike, none of them 0", "77777777", 3, "0.875");
        Script.promise(44, "asked twice it is the same", "garbage = 3", "garbage = 3", "forgotten = 0.875", "garbage = 3");
    }

    private static void forgotten() {
        Script.promise(45, "all but one at first", "forgotten = 0.875");
        Script.promise(45, "0 is no image, if no value has it", "setImage 0 1", "setImage 1 1", "setImage 2 1", "setImage 3 1",
                "setImage 4 1", "setImage 5 1", "setImage 6 1", "forgotten = 0.75", "setImage 7 1 = 0", "forgotten = 0.875");
        Script.promise(45, "7 is an image, if a value has it", "forgotten = 0.875", "setImage 3 7 = 0", "forgotten = 0.75");
        Script.promise(45, "an image that was replaced is none any more", "setImage 3 7 = 0", "forgotten = 0.75", "setImage 3 0 = 7",
                "forgotten = 0.875");
        Script.promise(45, "asked twice it is the same", "forgotten = 0.875", "forgotten = 0.875");
    }

    private static void pebblesOutOfRange() {
        Script.promise(46, "0 places are out of range", "pebbles 0 1 = " + BAD, "pebbles 0 10 = " + BAD);
        Script.promise(46, "-1 places are out of range", "pebbles -1 1 = " + BAD, "pebbles -2147483648 1 = " + BAD);
        Script.promise(46, "11 places are out of range", "pebbles 11 10 = " + BAD, "pebbles 2147483647 10 = " + BAD);
        Script.promise(46, "0 pebbles are out of range", "pebbles 1 0 = " + BAD, "pebbles 10 0 = " + BAD);
        Script.promise(46, "-1 pebbles are out of range", "pebbles 1 -1 = " + BAD, "pebbles 1 -2147483648 = " + BAD);
        Script.promise(46, "11 pebbles are out of range", "pebbles 1 11 = " + BAD, "pebbles 10 11 = " + BAD,
                "pebbles 1 2147483647 = " + BAD);
        Script.promise(46, "of both exceptions the one of the range, which is listed first", "pebbles 11 1 = " + BAD, "pebbles 2 0 = " + BAD,
                "pebbles 33 1 = " + BAD);
    }

    private static void pebbles() {
        Script.promise(46, "1 move for 1 place", "pebbles 1 1 = 1");
        Script.promise(46, "1 move for 1 place, though there are 10 pebbles", "pebbles 1 10 = 1");
        Script.promise(46, "10 places are in range, and 10 pebbles", "pebbles 10 10 = 19");
        Script.promise(46, "the first place needs none ahead of it", "pebbles 2 2 = 3");
        Script.promise(46, "at the end just the last place has one", "pebbles 3 3 = 5", "pebbles 9 9 = 17");
        Script.promise(46, "more pebbles than places need no fewer moves", "pebbles 5 5 = 9", "pebbles 5 6 = 9", "pebbles 5 10 = 9");
        Script.promise(46, "1 pebble less needs more moves", "pebbles 4 4 = 7", "pebbles 4 3 = 9");
        Script.promise(46, "at most so many at once: 8 places with just enough", "pebbles 8 4 = 25");
        Script.promise(46, "at most so many at once: 10 places with just enough", "pebbles 10 5 = 29");
        Script.promise(46, "asked again it is the same", "pebbles 4 3 = 9", "pebbles 10 10 = 19", "pebbles 4 3 = 9");
    }

    private static void pebblesThatCannot() {
        Script.promise(46, "it cannot be done: 2 places with 1 pebble", "pebbles 2 1 = " + CANNOT);
        Script.promise(46, "it cannot be done: 3 places with 2 pebbles", "pebbles 3 2 = " + CANNOT, "pebbles 3 3 = 5");
        Script.promise(46, "it cannot be done: 5 places with 3 pebbles", "pebbles 4 3 = 9", "pebbles 5 3 = " + CANNOT);
        Script.promise(46, "it cannot be done: 9 places with 4 pebbles", "pebbles 8 4 = 25", "pebbles 9 4 = " + CANNOT);
        Script.promise(46, "it cannot be done: 10 places with 1 to 4 pebbles", "pebbles 10 1 = " + CANNOT, "pebbles 10 2 = " + CANNOT,
                "pebbles 10 3 = " + CANNOT, "pebbles 10 4 = " + CANNOT);
    }

    private static void fewestPebbles() {
        Script.promise(47, "0 places are out of range", "fewestPebbles 0 = " + BAD);
        Script.promise(47, "-1 places are out of range", "fewestPebbles -1 = " + BAD, "fewestPebbles -2147483648 = " + BAD);
        Script.promise(47, "11 places are out of range", "fewestPebbles 11 = " + BAD, "fewestPebbles 2147483647 = " + BAD);
        Script.promise(47, "1 place needs 1", "fewestPebbles 1 = 1");
        Script.promise(47, "2 places need 2", "fewestPebbles 2 = 2");
        Script.promise(47, "3 places need 3, and 4 no more", "fewestPebbles 3 = 3", "fewestPebbles 4 = 3");
        Script.promise(47, "5 places need 4, and 8 no more", "fewestPebbles 5 = 4", "fewestPebbles 8 = 4");
        Script.promise(47, "9 places need 5, and 10 no more", "fewestPebbles 9 = 5", "fewestPebbles 10 = 5");
        Script.promise(47, "asked again it is the same", "fewestPebbles 10 = 5", "fewestPebbles 1 = 1", "fewestPebbles 10 = 5");
    }
}
