import java.util.Arrays;
import java.util.NoSuchElementException;

/** Programs, circuits and pebble games that can be run backward; the document's promises, and no more. */
public final class Uncomputery {

    private static final int MOST_SIGNS = 60;
    /** More than 60 signs can make: they make 20 at most, and 23 where they have a fault. */
    private static final int MOST_INSTRUCTIONS = 30;
    private static final int MOST_BRACKETS = 6;
    private static final int MOST_DIGITS = 3;
    private static final int MOST_PROCEDURES = 6;
    private static final int MOST_STACKED = 20;
    private static final int MOST_CALLS = 20;
    private static final int MOST_STEPS = 500;
    private static final int MOST_CAUSES = 2;
    private static final int MOST_GATES = 24;
    private static final int MOST_PLACES = 10;
    private static final int VARIABLES = 8;
    private static final int TABLE_VALUES = 16;
    private static final int LINES = 3;
    private static final int VALUES = 8;
    /** What is read behind the last sign of a text: no char has this number. */
    private static final int END_OF_TEXT = -1;
    private static final char NOTHING = ' ';

    private final Procedure typed;
    private final Library library;
    private final Procedure once;
    private final Procedure twice;
    private final Text thrice;
    private final Store store;
    private final Store trial;
    private final Run begun;
    private final Run whole;
    private final Circuit circuit;
    /** These two are large, and made when they are first asked for: most objects never need them. */
    private GateSearch gateSearch;
    private PebbleLine pebbleLine;
    private final int[] images;
    private final int[] results;
    private final int[] tally;
    private long stepsDone;
    private long bitsErased;

    public Uncomputery() {
        typed = new Procedure();
        library = new Library();
        once = new Procedure();
        twice = new Procedure();
        thrice = new Text();
        store = new Store();
        trial = new Store();
        begun = new Run(library, store);
        whole = new Run(library, trial);
        circuit = new Circuit();
        images = new int[VALUES];
        results = new int[TABLE_VALUES];
        tally = new int[VALUES];
    }

    // ---- texts

    public int type(char sign) throws IllegalStateException {
        if (typed.text.isFull()) {
            throw new IllegalStateException("60 signs are typed");
        }
        typed.text.put(sign);
        return typed.text.count();
    }

    public int wipe() {
        int had = typed.text.count();
        typed.text.empty();
        return had;
    }

    public int fault() throws NoSuchElementException {
        if (typed.reader.readAll()) {
            throw new NoSuchElementException("the text has no fault");
        }
        return typed.reader.faultPlace();
    }

    public char faultKind() throws NoSuchElementException {
        if (typed.reader.readAll()) {
            throw new NoSuchElementException("the text has no fault");
        }
        return typed.reader.faultLetter();
    }

    public int define() throws IllegalArgumentException, IllegalStateException {
        if (!typed.reader.readAll()) {
            throw new IllegalArgumentException("the text has a fault");
        }
        if (library.isFull()) {
            throw new IllegalStateException("there are 6 procedures");
        }
        Procedure next = library.next();
        next.text.copy(typed.text);
        next.reader.readAll();
        typed.text.empty();
        return library.keepNext();
    }

    public int invert(int procedure) throws IndexOutOfBoundsException, IllegalStateException {
        if (!library.has(procedure)) {
            throw new IndexOutOfBoundsException("no such procedure");
        }
        if (library.isFull()) {
            throw new IllegalStateException("there are 6 procedures");
        }
        Procedure next = library.next();
        library.code(procedure).writeBack(next.text);
        next.reader.readAll();
        return library.keepNext();
    }

    public int length(int procedure) throws IndexOutOfBoundsException {
        if (!library.has(procedure)) {
            throw new IndexOutOfBoundsException("no such procedure");
        }
        return library.procedure(procedure).text.count();
    }

    public char signAt(int procedure, int index) throws IndexOutOfBoundsException {
        if (!library.has(procedure)) {
            throw new IndexOutOfBoundsException("no such procedure");
        }
        Text text = library.procedure(procedure).text;
        if (index < 0 || index >= text.count()) {
            throw new IndexOutOfBoundsException("no such index");
        }
        return (char) text.sign(index);
    }

    public int size(int procedure) throws IndexOutOfBoundsException {
        if (!library.has(procedure)) {
            throw new IndexOutOfBoundsException("no such procedure");
        }
        return library.code(procedure).count();
    }

    public char instruction(int procedure, int place) throws IndexOutOfBoundsException {
        if (!library.has(procedure)) {
            throw new IndexOutOfBoundsException("no such procedure");
        }
        Code code = library.code(procedure);
        if (place < 0 || place >= code.count()) {
            throw new IndexOutOfBoundsException("no such instruction");
        }
        return code.at(place).sign;
    }

    // ---- running

    public int set(char variable, int value) throws IllegalArgumentException {
        if (!isVariable(variable)) {
            throw new IllegalArgumentException("no such variable");
        }
        int before = store.value(variable - 'a');
        store.put(variable - 'a', value);
        return before;
    }

    public int get(char variable) throws IllegalArgumentException {
        if (!isVariable(variable)) {
            throw new IllegalArgumentException("no such variable");
        }
        return store.value(variable - 'a');
    }

    public int stacked() {
        return store.height();
    }

    public int stackAt(int depth) throws IndexOutOfBoundsException {
        if (depth < 0 || depth >= store.height()) {
            throw new IndexOutOfBoundsException("no such value on the stack");
        }
        return store.stackedAt(store.height() - 1 - depth);
    }

    public int start(int procedure, boolean isForward) throws IndexOutOfBoundsException {
        if (!library.has(procedure)) {
            throw new IndexOutOfBoundsException("no such procedure");
        }
        begun.begin(procedure, isForward);
        return begun.place;
    }

    public int go(int most, boolean isTurned) throws IllegalArgumentException, IllegalStateException {
        if (most < 1 || most > MOST_STEPS) {
            throw new IllegalArgumentException("1 to 500 steps");
        }
        if (!begun.isBegun) {
            throw new IllegalStateException("no run was begun");
        }
        if (isTurned) {
            begun.turn();
        }
        int done = begun.advance(most);
        stepsDone += done;
        return done;
    }

    public char state() {
        if (!begun.isBegun) {
            return '-';
        }
        if (begun.isBroken()) {
            return 'b';
        }
        return begun.isEnded() ? 'e' : 'g';
    }

    public int place() throws IllegalStateException {
        if (!begun.isBegun) {
            throw new IllegalStateException("no run was begun");
        }
        return begun.place;
    }

    public int inside() throws IllegalStateException {
        if (!begun.isBegun) {
            throw new IllegalStateException("no run was begun");
        }
        return begun.procedure;
    }

    public int depth() throws IllegalStateException {
        if (!begun.isBegun) {
            throw new IllegalStateException("no run was begun");
        }
        return begun.calls;
    }

    public boolean isAhead() throws IllegalStateException {
        if (!begun.isBegun) {
            throw new IllegalStateException("no run was begun");
        }
        return begun.goesAhead;
    }

    public char why(int depth) throws NoSuchElementException {
        if (!begun.hasCause(depth)) {
            throw new NoSuchElementException("no such cause");
        }
        return begun.causeLetter(depth);
    }

    public int whyNumber(int depth) throws NoSuchElementException {
        if (!begun.hasCause(depth)) {
            throw new NoSuchElementException("no such cause");
        }
        return begun.causeNumber(depth);
    }

    public int run(int procedure, boolean isForward)
            throws IndexOutOfBoundsException, UnsupportedOperationException {
        if (!library.has(procedure)) {
            throw new IndexOutOfBoundsException("no such procedure");
        }
        trial.copy(store);
        whole.begin(procedure, isForward);
        int done = whole.advance(MOST_STEPS);
        if (!whole.isEnded()) {
            throw new UnsupportedOperationException("the run breaks or does not end");
        }
        store.copy(trial);
        stepsDone += done;
        return done;
    }

    public long erase(char variable) throws IllegalArgumentException {
        if (!isVariable(variable)) {
            throw new IllegalArgumentException("no such variable");
        }
        bitsErased += Integer.bitCount(store.value(variable - 'a'));
        store.put(variable - 'a', 0);
        return bitsErased;
    }

    public long steps() {
        return stepsDone;
    }

    // ---- tables

    public int image(int procedure, char variable, int value)
            throws IndexOutOfBoundsException, IllegalArgumentException, NoSuchElementException {
        if (!library.has(procedure)) {
            throw new IndexOutOfBoundsException("no such procedure");
        }
        if (!isVariable(variable)) {
            throw new IllegalArgumentException("no such variable");
        }
        if (!tryToEnd(procedure, variable - 'a', value)) {
            throw new NoSuchElementException("the run breaks or does not end");
        }
        return trial.value(variable - 'a');
    }

    public int works(int procedure, char variable) throws IndexOutOfBoundsException, IllegalArgumentException {
        if (!library.has(procedure)) {
            throw new IndexOutOfBoundsException("no such procedure");
        }
        if (!isVariable(variable)) {
            throw new IllegalArgumentException("no such variable");
        }
        int count = 0;
        for (int value = 0; value < TABLE_VALUES; value++) {
            if (tryToEnd(procedure, variable - 'a', value)) {
                count++;
            }
        }
        return count;
    }

    public int alike(int procedure, char variable) throws IndexOutOfBoundsException, IllegalArgumentException {
        if (!library.has(procedure)) {
            throw new IndexOutOfBoundsException("no such procedure");
        }
        if (!isVariable(variable)) {
            throw new IllegalArgumentException("no such variable");
        }
        int count = 0;
        for (int value = 0; value < TABLE_VALUES; value++) {
            if (tryToEnd(procedure, variable - 'a', value) && count < results.length) {
                results[count] = trial.value(variable - 'a');
                count++;
            }
        }
        int most = 0;
        for (int i = 0; i < count && i < results.length; i++) {
            most = Math.max(most, countOf(results[i], count));
        }
        return most;
    }

    // ---- circuits

    public int gate(int line, int controls) throws IllegalArgumentException, IllegalStateException {
        if (line < 0 || line >= LINES || controls < 0 || controls >= VALUES) {
            throw new IllegalArgumentException("lines are 0 to 2, controls 0 to 7");
        }
        if ((controls & (1 << line)) != 0) {
            throw new IllegalArgumentException("the line is among its controls");
        }
        if (circuit.isFull()) {
            throw new IllegalStateException("there are 24 gates");
        }
        circuit.add(8 * line + controls);
        return circuit.count();
    }

    public int dropGate() throws NoSuchElementException {
        if (circuit.count() == 0) {
            throw new NoSuchElementException("there is no gate");
        }
        return circuit.drop();
    }

    public int gates() {
        return circuit.count();
    }

    public int through(int value) throws IllegalArgumentException {
        if (!isValue(value)) {
            throw new IllegalArgumentException("values are 0 to 7");
        }
        return circuit.output(value);
    }

    public int backThrough(int value) throws IllegalArgumentException {
        if (!isValue(value)) {
            throw new IllegalArgumentException("values are 0 to 7");
        }
        return circuit.source(value);
    }

    public int turnRound() {
        circuit.reverse();
        return circuit.count();
    }

    public int simplify() {
        return circuit.dropPairs();
    }

    public int made() {
        return circuit.make();
    }

    public int madeAt(int index) throws IndexOutOfBoundsException {
        int count = circuit.make();
        if (index < 0 || index >= count) {
            throw new IndexOutOfBoundsException("no such gate");
        }
        return circuit.madeGate(index);
    }

    public int leastGates() {
        if (gateSearch == null) {
            gateSearch = new GateSearch();
        }
        return gateSearch.find(circuit.packedOutputs());
    }

    public int cycles() {
        int count = 0;
        for (int value = 0; value < VALUES; value++) {
            if (circuit.isLeastOfItsCycle(value)) {
                count++;
            }
        }
        return count;
    }

    public int order() {
        int times = 1;
        for (int value = 0; value < VALUES; value++) {
            times = leastMultiple(times, circuit.cycleLength(value));
        }
        return times;
    }

    // ---- forgetting and pebbles

    public int setImage(int value, int image) throws IllegalArgumentException {
        if (!isValue(value) || !isValue(image)) {
            throw new IllegalArgumentException("values are 0 to 7");
        }
        int before = images[value];
        images[value] = image;
        return before;
    }

    public int garbage() {
        countImages();
        int most = 1;
        for (int i = 0; i < tally.length; i++) {
            most = Math.max(most, tally[i]);
        }
        int bits = 0;
        while (bits < LINES && (1 << bits) < most) {
            bits++;
        }
        return bits;
    }

    public float forgotten() {
        countImages();
        int missing = 0;
        for (int i = 0; i < tally.length; i++) {
            if (tally[i] == 0) {
                missing++;
            }
        }
        return (float) missing / (float) VALUES;
    }

    public int pebbles(int places, int pebbles) throws IllegalArgumentException, NoSuchElementException {
        if (places < 1 || places > MOST_PLACES || pebbles < 1 || pebbles > MOST_PLACES) {
            throw new IllegalArgumentException("1 to 10 places and pebbles");
        }
        int moves = fewestMoves(places, pebbles);
        if (moves < 0) {
            throw new NoSuchElementException("it cannot be done");
        }
        return moves;
    }

    public int fewestPebbles(int places) throws IllegalArgumentException {
        if (places < 1 || places > MOST_PLACES) {
            throw new IllegalArgumentException("1 to 10 places");
        }
        int count = 1;
        while (count < places && fewestMoves(places, count) < 0) {
            count++;
        }
        return count;
    }

    // ---- figures

    public int procedures() {
        return library.count();
    }

    public long checksum() {
        return 31L * store.fold(7L) + bitsErased;
    }

    public double meanSize() throws NoSuchElementException {
        int count = library.count();
        if (count < 1) {
            throw new NoSuchElementException("there are no procedures");
        }
        int sum = 0;
        for (int i = 0; i < count; i++) {
            sum += library.code(i).count();
        }
        return (double) sum / (double) count;
    }

    public boolean isSound() {
        for (int i = 0; i < library.count(); i++) {
            Code code = library.code(i);
            code.writeBack(once.text);
            if (!once.reader.readAll() || once.code.count() != code.count()) {
                return false;
            }
            once.code.writeBack(twice.text);
            if (!twice.reader.readAll()) {
                return false;
            }
            twice.code.writeBack(thrice);
            if (!thrice.isSame(once.text)) {
                return false;
            }
        }
        return isCircuitSound();
    }

    // ---- what several of them use

    private static boolean isVariable(int sign) {
        return sign >= 'a' && sign <= 'h';
    }

    private static boolean isDigit(int sign) {
        return sign >= '0' && sign <= '9';
    }

    private static boolean isValue(int value) {
        return value >= 0 && value < VALUES;
    }

    /**
     * A term is a number from 0 on, or a variable, kept below 0 so that both fit one int; this also leads
     * from such a term to its variable.
     */
    private static int termOf(int variable) {
        return -1 - variable;
    }

    private static int greatestDivisor(int one, int other) {
        int high = one;
        int low = other;
        for (int i = 0; i < 64 && low > 0; i++) {
            int rest = high % low;
            high = low;
            low = rest;
        }
        return high;
    }

    private static int leastMultiple(int one, int other) {
        int divisor = greatestDivisor(one, other);
        return divisor < 1 ? one : one / divisor * other;
    }

    /** Runs a procedure on the trial store, which holds what comes of it if it ends. */
    private boolean tryToEnd(int procedure, int variable, int value) {
        trial.copy(store);
        trial.put(variable, value);
        whole.begin(procedure, true);
        whole.advance(MOST_STEPS);
        return whole.isEnded();
    }

    private int countOf(int result, int count) {
        int same = 0;
        for (int i = 0; i < count && i < results.length; i++) {
            if (results[i] == result) {
                same++;
            }
        }
        return same;
    }

    private int fewestMoves(int places, int pebbles) {
        if (pebbleLine == null) {
            pebbleLine = new PebbleLine();
        }
        return pebbleLine.fewestMoves(places, pebbles);
    }

    private boolean isCircuitSound() {
        circuit.make();
        for (int value = 0; value < VALUES; value++) {
            int output = circuit.output(value);
            if (circuit.source(output) != value || circuit.madeOutput(value) != output) {
                return false;
            }
        }
        return true;
    }

    private void countImages() {
        Arrays.fill(tally, 0);
        for (int i = 0; i < images.length; i++) {
            int image = images[i];
            if (isValue(image)) {
                tally[image]++;
            }
        }
    }

    /** A row of signs. */
    private static final class Text {
        private final char[] signs = new char[MOST_SIGNS];
        private int filled;

        boolean isFull() {
            return filled >= MOST_SIGNS;
        }

        int count() {
            return filled;
        }

        void empty() {
            filled = 0;
        }

        int sign(int index) {
            return index >= 0 && index < filled && index < signs.length ? signs[index] : END_OF_TEXT;
        }

        void put(char sign) {
            if (filled >= 0 && filled < signs.length) {
                signs[filled] = sign;
                filled++;
            }
        }

        void putTerm(int term) {
            if (term < 0) {
                put((char) ('a' + termOf(term)));
                return;
            }
            if (term >= 100) {
                put((char) ('0' + term / 100 % 10));
            }
            if (term >= 10) {
                put((char) ('0' + term / 10 % 10));
            }
            put((char) ('0' + term % 10));
        }

        void copy(Text other) {
            empty();
            for (int i = 0; i < other.filled && i < MOST_SIGNS; i++) {
                put((char) other.sign(i));
            }
        }

        boolean isSame(Text other) {
            if (filled != other.filled) {
                return false;
            }
            for (int i = 0; i < filled; i++) {
                if (sign(i) != other.sign(i)) {
                    return false;
                }
            }
            return true;
        }
    }

    /** What a step does; the first and the last one of a choice or loop keep its tests, C and D. */
    private static final class Instruction {
        char sign = NOTHING;
        /** The number of the variable that it changes, or of the procedure that it calls. */
        int target;
        int first;
        char operator = NOTHING;
        int second;
        int open;
        int middle;
        int close;

        void reset(char newSign) {
            sign = newSign;
            target = 0;
            first = 0;
            operator = NOTHING;
            second = 0;
            open = 0;
            middle = 0;
            close = 0;
        }
    }

    /** The instructions of a procedure. */
    private static final class Code {
        private final Instruction[] row = new Instruction[MOST_INSTRUCTIONS];
        private final Instruction none = new Instruction();
        private int filled;

        Code() {
            for (int i = 0; i < row.length; i++) {
                row[i] = new Instruction();
            }
        }

        int count() {
            return filled;
        }

        void empty() {
            filled = 0;
        }

        Instruction at(int place) {
            return place >= 0 && place < filled && place < row.length ? row[place] : none;
        }

        Instruction add(char sign) {
            if (filled < 0 || filled >= row.length) {
                return none;
            }
            Instruction next = row[filled];
            next.reset(sign);
            filled++;
            return next;
        }

        /** Lets the three instructions of a choice or loop know one another's places. */
        void link(int open, int middle, int close) {
            linkOne(at(open), open, middle, close);
            linkOne(at(middle), open, middle, close);
            linkOne(at(close), open, middle, close);
        }

        private static void linkOne(Instruction one, int open, int middle, int close) {
            one.open = open;
            one.middle = middle;
            one.close = close;
        }

        /** Writes the text of the way back. */
        void writeBack(Text text) {
            text.empty();
            writeRowBack(this, 0, filled, text, 0);
        }

        private static void writeRowBack(Code code, int from, int to, Text text, int open) {
            int place = to - 1;
            for (int i = 0; i < MOST_INSTRUCTIONS && place >= from; i++) {
                if (i > 0) {
                    text.put(';');
                }
                Instruction last = code.at(place);
                if (last.sign == ']' || last.sign == '}') {
                    writeBracketBack(code, last, text, open);
                    place = last.open - 1;
                } else {
                    writeStatementBack(last, text);
                    place--;
                }
            }
        }

        private static void writeBracketBack(Code code, Instruction end, Text text, int open) {
            if (open >= MOST_BRACKETS) {
                return;
            }
            Instruction begin = code.at(end.open);
            text.put(begin.sign);
            writeTerms(end, text);
            text.put(':');
            writeRowBack(code, end.open + 1, end.middle, text, open + 1);
            text.put('|');
            writeRowBack(code, end.middle + 1, end.close, text, open + 1);
            text.put(':');
            writeTerms(begin, text);
            text.put(end.sign);
        }

        private static void writeStatementBack(Instruction statement, Text text) {
            switch (statement.sign) {
                case '!':
                case '?':
                    text.put(turnedSign(statement.sign));
                    text.putTerm(termOf(statement.target));
                    break;
                case '@':
                case '$':
                    text.put(turnedSign(statement.sign));
                    text.putTerm(statement.target);
                    break;
                default:
                    text.putTerm(termOf(statement.target));
                    text.put(turnedSign(statement.sign));
                    writeTerms(statement, text);
                    break;
            }
        }

        private static void writeTerms(Instruction from, Text text) {
            text.putTerm(from.first);
            if (from.operator != NOTHING) {
                text.put(from.operator);
                text.putTerm(from.second);
            }
        }

        private static char turnedSign(char sign) {
            switch (sign) {
                case '+': return '-';
                case '-': return '+';
                case '!': return '?';
                case '?': return '!';
                case '@': return '$';
                case '$': return '@';
                default: return sign;
            }
        }
    }

    /** A text, and what it is read into. */
    private static final class Procedure {
        final Text text = new Text();
        final Code code = new Code();
        final Reader reader = new Reader(text, code);
    }

    /** Reads a text into instructions, up to its first fault; each reading answers whether there was none. */
    private static final class Reader {
        private final Text text;
        private final Code code;
        private int at;
        private int faultAt;
        private char faultSign = NOTHING;
        private int term;

        Reader(Text text, Code code) {
            this.text = text;
            this.code = code;
        }

        int faultPlace() {
            return faultAt;
        }

        char faultLetter() {
            return faultSign;
        }

        boolean readAll() {
            at = 0;
            code.empty();
            return readRow(END_OF_TEXT, 0);
        }

        private int sign() {
            return at >= 0 && at < text.filled && at < text.signs.length ? text.signs[at] : END_OF_TEXT;
        }

        private boolean fail(char letter, int place) {
            faultSign = letter;
            faultAt = place;
            return false;
        }

        private boolean passOver(char wanted, char letter) {
            if (sign() != wanted) {
                return fail(letter, at);
            }
            at++;
            return true;
        }

        private boolean readRow(int end, int open) {
            if (sign() == end) {
                return true;
            }
            for (int i = 0; i < MOST_SIGNS; i++) {
                if (!readStatement(open)) {
                    return false;
                }
                if (sign() == end) {
                    return true;
                }
                if (!passOver(';', 'e')) {
                    return false;
                }
            }
            return fail('e', at);
        }

        private boolean readStatement(int open) {
            int sign = sign();
            if (isVariable(sign)) {
                return readChange();
            }
            switch (sign) {
                case '!':
                case '?':
                    return readStacking((char) sign);
                case '@':
                case '$':
                    return readCall((char) sign);
                case '[':
                    return readBracket('[', '|', ']', open);
                case '{':
                    return readBracket('{', '/', '}', open);
                default:
                    return fail('s', at);
            }
        }

        private boolean readChange() {
            int begin = at;
            int variable = sign() - 'a';
            at++;
            int sign = sign();
            if (sign != '+' && sign != '-' && sign != '^' && sign != '~') {
                return fail('o', at);
            }
            at++;
            Instruction change = code.add((char) sign);
            change.target = variable;
            if (sign == '~') {
                return readPartner(change);
            }
            if (!readTerm()) {
                return false;
            }
            change.first = term;
            if (isSumSign(sign())) {
                change.operator = (char) sign();
                at++;
                if (!readTerm()) {
                    return false;
                }
                change.second = term;
            }
            return !isOwnSum(change) || fail('r', begin);
        }

        private boolean readPartner(Instruction swap) {
            if (!isVariable(sign())) {
                return fail('v', at);
            }
            swap.first = termOf(sign() - 'a');
            if (swap.first == termOf(swap.target)) {
                return fail('r', at);
            }
            at++;
            return true;
        }

        private static boolean isOwnSum(Instruction update) {
            int own = termOf(update.target);
            return update.first == own || update.operator != NOTHING && update.second == own;
        }

        private static boolean isSumSign(int sign) {
            return sign == '+' || sign == '-' || sign == '*' || sign == '&';
        }

        private static boolean isTestSign(int sign) {
            return sign == '<' || sign == '=' || sign == '>';
        }

        private boolean readTerm() {
            if (isVariable(sign())) {
                term = termOf(sign() - 'a');
                at++;
                return true;
            }
            if (!isDigit(sign())) {
                return fail('t', at);
            }
            term = 0;
            for (int i = 0; i < MOST_DIGITS && isDigit(sign()); i++) {
                term = 10 * term + (sign() - '0');
                at++;
            }
            return true;
        }

        private boolean readStacking(char sign) {
            at++;
            if (!isVariable(sign())) {
                return fail('v', at);
            }
            code.add(sign).target = sign() - 'a';
            at++;
            return true;
        }

        private boolean readCall(char sign) {
            at++;
            if (sign() < '0' || sign() > '5') {
                return fail('n', at);
            }
            code.add(sign).target = sign() - '0';
            at++;
            return true;
        }

        private boolean readBracket(char begin, char between, char end, int open) {
            if (open >= MOST_BRACKETS) {
                return fail('m', at);
            }
            at++;
            int first = code.count();
            if (!readTest(code.add(begin)) || !passOver(':', 'd') || !readRow('|', open + 1)) {
                return false;
            }
            at++;
            int middle = code.count();
            code.add(between);
            if (!readRow(':', open + 1)) {
                return false;
            }
            at++;
            int last = code.count();
            if (!readTest(code.add(end)) || !passOver(end, 'x')) {
                return false;
            }
            code.link(first, middle, last);
            return true;
        }

        private boolean readTest(Instruction test) {
            if (!readTerm()) {
                return false;
            }
            test.first = term;
            if (!isTestSign(sign())) {
                return fail('c', at);
            }
            test.operator = (char) sign();
            at++;
            if (!readTerm()) {
                return false;
            }
            test.second = term;
            return true;
        }
    }

    /** The procedures by their numbers. */
    private static final class Library {
        private final Procedure[] rows = new Procedure[MOST_PROCEDURES];
        private final Procedure none = new Procedure();
        private int filled;

        Library() {
            for (int i = 0; i < rows.length; i++) {
                rows[i] = new Procedure();
            }
        }

        int count() {
            return filled;
        }

        boolean isFull() {
            return filled >= MOST_PROCEDURES;
        }

        boolean has(int number) {
            return number >= 0 && number < filled;
        }

        Procedure procedure(int number) {
            return has(number) && number < rows.length ? rows[number] : none;
        }

        Code code(int number) {
            return number >= 0 && number < filled && number < rows.length ? rows[number].code : none.code;
        }

        /** The row that the next procedure is written into, ahead of being kept. */
        Procedure next() {
            return filled >= 0 && filled < rows.length ? rows[filled] : none;
        }

        int keepNext() {
            filled++;
            return filled - 1;
        }
    }

    /** The variables and the stack. */
    private static final class Store {
        private final int[] values = new int[VARIABLES];
        private final int[] stack = new int[MOST_STACKED];
        private int filled;

        void copy(Store other) {
            System.arraycopy(other.values, 0, values, 0, VARIABLES);
            System.arraycopy(other.stack, 0, stack, 0, MOST_STACKED);
            filled = other.filled;
        }

        int value(int variable) {
            return variable >= 0 && variable < values.length ? values[variable] : 0;
        }

        void put(int variable, int value) {
            if (variable >= 0 && variable < values.length) {
                values[variable] = value;
            }
        }

        int height() {
            return filled;
        }

        int stackedAt(int index) {
            return index >= 0 && index < filled && index < stack.length ? stack[index] : 0;
        }

        void push(int value) {
            if (filled >= 0 && filled < stack.length) {
                stack[filled] = value;
                filled++;
            }
        }

        int pop() {
            int last = stackedAt(filled - 1);
            if (filled > 0) {
                filled--;
            }
            return last;
        }

        int termValue(int term) {
            int variable = -1 - term;
            return variable >= 0 && variable < values.length ? values[variable] : term;
        }

        int sum(Instruction update) {
            int first = termValue(update.first);
            int second = termValue(update.second);
            switch (update.operator) {
                case '+': return first + second;
                case '-': return first - second;
                case '*': return first * second;
                case '&': return first & second;
                default: return first;
            }
        }

        boolean holds(Instruction test) {
            int first = termValue(test.first);
            int second = termValue(test.second);
            switch (test.operator) {
                case '<': return first < second;
                case '>': return first > second;
                default: return first == second;
            }
        }

        long fold(long begin) {
            long sum = begin;
            for (int i = 0; i < values.length; i++) {
                sum = 31L * sum + values[i];
            }
            for (int i = 0; i < filled; i++) {
                sum = 31L * sum + stackedAt(i);
            }
            return sum;
        }
    }

    /** A run through procedures, either way. */
    private static final class Run {
        private final Library library;
        private final Store store;
        private final int[] callers = new int[MOST_CALLS];
        private final int[] callPlaces = new int[MOST_CALLS];
        private final boolean[] callWays = new boolean[MOST_CALLS];
        private final char[] letters = new char[MOST_CAUSES];
        private final int[] numbers = new int[MOST_CAUSES];
        private int causes;
        boolean isBegun;
        int procedure;
        int place;
        int calls;
        boolean goesAhead;

        Run(Library library, Store store) {
            this.library = library;
            this.store = store;
        }

        void begin(int number, boolean isForward) {
            isBegun = true;
            causes = 0;
            calls = 0;
            enter(number, isForward);
        }

        private void enter(int number, boolean isForward) {
            procedure = number;
            goesAhead = isForward;
            place = isForward ? 0 : library.code(number).count();
        }

        void turn() {
            goesAhead = !goesAhead;
            for (int i = 0; i < calls && i < callWays.length; i++) {
                callWays[i] = !callWays[i];
            }
        }

        boolean isBroken() {
            return causes > 0;
        }

        boolean hasCause(int depth) {
            return depth >= 0 && depth < causes;
        }

        char causeLetter(int depth) {
            return depth >= 0 && depth < letters.length ? letters[depth] : NOTHING;
        }

        int causeNumber(int depth) {
            return depth >= 0 && depth < numbers.length ? numbers[depth] : 0;
        }

        private boolean isAtEdge() {
            return goesAhead ? place >= library.code(procedure).count() : place <= 0;
        }

        boolean isEnded() {
            return calls == 0 && isAtEdge();
        }

        /** Goes on by so many steps at most, and answers how many were done. */
        int advance(int most) {
            causes = 0;
            comeBack();
            int done = 0;
            while (done < most && !isEnded() && step()) {
                comeBack();
                done++;
            }
            return done;
        }

        private void comeBack() {
            for (int i = 0; i < MOST_CALLS && calls > 0 && isAtEdge(); i++) {
                int last = calls - 1;
                if (last < callers.length) {
                    procedure = callers[last];
                    goesAhead = callWays[last];
                    place = goesAhead ? callPlaces[last] + 1 : callPlaces[last];
                }
                calls = last;
            }
        }

        private boolean breakOff(char letter, int number) {
            causes = 1;
            letters[0] = letter;
            numbers[0] = number;
            return false;
        }

        private boolean breakAtTest(int at, char sign, int wanted) {
            breakOff('t', at);
            causes = 2;
            letters[1] = sign;
            numbers[1] = wanted;
            return false;
        }

        private boolean moveTo(int next) {
            place = next;
            return true;
        }

        private boolean step() {
            Code code = library.code(procedure);
            int at = goesAhead ? place : place - 1;
            Instruction step = code.at(at);
            switch (step.sign) {
                case '+':
                case '-':
                case '^':
                    update(step);
                    break;
                case '~':
                    swap(step.target, termOf(step.first));
                    break;
                case '!':
                case '?':
                    if (!moveStacked(step)) {
                        return false;
                    }
                    break;
                case '@':
                case '$':
                    return goIn(step, at);
                default:
                    return goesAhead ? passAhead(code, step, at) : passBack(code, step, at);
            }
            return moveTo(goesAhead ? at + 1 : at);
        }

        private void update(Instruction update) {
            int before = store.value(update.target);
            int sum = store.sum(update);
            int after = before ^ sum;
            if (update.sign != '^') {
                after = (update.sign == '+') == goesAhead ? before + sum : before - sum;
            }
            store.put(update.target, after);
        }

        private void swap(int one, int other) {
            int kept = store.value(one);
            store.put(one, store.value(other));
            store.put(other, kept);
        }

        private boolean moveStacked(Instruction step) {
            boolean isPut = (step.sign == '!') == goesAhead;
            if (isPut) {
                if (store.height() >= MOST_STACKED) {
                    return breakOff('f', MOST_STACKED);
                }
                store.push(store.value(step.target));
                store.put(step.target, 0);
                return true;
            }
            if (store.value(step.target) != 0) {
                return breakOff('z', step.target);
            }
            if (store.height() < 1) {
                return breakOff('e', step.target);
            }
            store.put(step.target, store.pop());
            return true;
        }

        private boolean goIn(Instruction call, int at) {
            if (!library.has(call.target)) {
                return breakOff('p', call.target);
            }
            if (calls < 0 || calls >= MOST_CALLS) {
                return breakOff('d', MOST_CALLS);
            }
            callers[calls] = procedure;
            callPlaces[calls] = at;
            callWays[calls] = goesAhead;
            calls++;
            enter(call.target, (call.sign == '@') == goesAhead);
            return true;
        }

        private boolean passAhead(Code code, Instruction step, int at) {
            boolean isBegin = store.holds(code.at(step.open));
            boolean isEnd = store.holds(code.at(step.close));
            switch (step.sign) {
                case '[':
                    return moveTo(isBegin ? at + 1 : step.middle + 1);
                case '|':
                    return isEnd ? moveTo(step.close + 1) : breakAtTest(at, '|', 1);
                case ']':
                    return isEnd ? breakAtTest(at, ']', 0) : moveTo(at + 1);
                case '{':
                    return isBegin ? moveTo(at + 1) : breakAtTest(at, '{', 1);
                case '/':
                    return moveTo(isEnd ? step.close + 1 : at + 1);
                default:
                    return isBegin ? breakAtTest(at, '}', 0) : moveTo(step.open + 1);
            }
        }

        private boolean passBack(Code code, Instruction step, int at) {
            boolean isBegin = store.holds(code.at(step.open));
            boolean isEnd = store.holds(code.at(step.close));
            switch (step.sign) {
                case ']':
                    return moveTo(isEnd ? step.middle : at);
                case '|':
                    return isBegin ? breakAtTest(at, '|', 0) : moveTo(step.open);
                case '[':
                    return isBegin ? moveTo(at) : breakAtTest(at, '[', 1);
                case '}':
                    return isEnd ? moveTo(step.middle) : breakAtTest(at, '}', 1);
                case '/':
                    return isEnd ? breakAtTest(at, '/', 0) : moveTo(at);
                default:
                    return moveTo(isBegin ? at : step.close);
            }
        }
    }

    /** A row of gates on three lines, each kept as 8 times its line, plus its controls. */
    private static final class Circuit {
        private final int[] row = new int[MOST_GATES];
        private final int[] outputs = new int[VALUES];
        private final int[] madeRow = new int[MOST_GATES];
        private int filled;
        private int madeFilled;

        int count() {
            return filled;
        }

        boolean isFull() {
            return filled >= MOST_GATES;
        }

        void add(int gate) {
            if (filled >= 0 && filled < row.length) {
                row[filled] = gate;
                filled++;
            }
        }

        int drop() {
            if (filled < 1 || filled > row.length) {
                return 0;
            }
            filled--;
            return row[filled];
        }

        static int pass(int gate, int value) {
            int controls = gate & 7;
            return (value & controls) == controls ? value ^ (1 << (gate >> 3)) : value;
        }

        int output(int value) {
            int output = value;
            for (int i = 0; i < filled && i < row.length; i++) {
                output = pass(row[i], output);
            }
            return output;
        }

        int source(int output) {
            int value = output;
            for (int i = Math.min(filled, row.length) - 1; i >= 0; i--) {
                value = pass(row[i], value);
            }
            return value;
        }

        void reverse() {
            for (int low = 0, high = Math.min(filled, row.length) - 1; low < high; low++, high--) {
                int kept = row[low];
                row[low] = row[high];
                row[high] = kept;
            }
        }

        /** Each round takes two gates away, so that there are no more rounds than gates. */
        int dropPairs() {
            int dropped = 0;
            for (int i = 0; i < MOST_GATES && isPairDropped(); i++) {
                dropped += 2;
            }
            return dropped;
        }

        private boolean isPairDropped() {
            for (int earlier = 0; earlier < filled; earlier++) {
                int later = partnerOf(earlier);
                if (later > earlier) {
                    remove(later);
                    remove(earlier);
                    return true;
                }
            }
            return false;
        }

        /** The next gate that is the same, if all between may change places with it; otherwise -1. */
        private int partnerOf(int earlier) {
            if (earlier < 0 || earlier >= row.length) {
                return -1;
            }
            int gate = row[earlier];
            for (int i = earlier + 1; i < filled && i < row.length; i++) {
                if (row[i] == gate) {
                    return i;
                }
                if (isControlledBy(row[i], gate) || isControlledBy(gate, row[i])) {
                    return -1;
                }
            }
            return -1;
        }

        private static boolean isControlledBy(int gate, int other) {
            return (gate & 7 & (1 << (other >> 3))) != 0;
        }

        private void remove(int index) {
            for (int i = Math.max(index, 0) + 1; i < filled && i < row.length; i++) {
                row[i - 1] = row[i];
            }
            filled--;
        }

        private void traceOutputs() {
            for (int value = 0; value < outputs.length; value++) {
                outputs[value] = output(value);
            }
        }

        int packedOutputs() {
            int packed = 0;
            for (int value = 0; value < VALUES; value++) {
                packed |= output(value) << (3 * value);
            }
            return packed;
        }

        /** Makes the circuit by the rule; no value needs more than a gate for each line. */
        int make() {
            traceOutputs();
            madeFilled = 0;
            for (int value = 0; value < outputs.length; value++) {
                for (int line = 0; line < LINES; line++) {
                    if ((value & ~outputs[value] & (1 << line)) != 0) {
                        makeGate(line, outputs[value]);
                    }
                }
                for (int line = 0; line < LINES; line++) {
                    if ((outputs[value] & ~value & (1 << line)) != 0) {
                        makeGate(line, value);
                    }
                }
            }
            return madeFilled;
        }

        private void makeGate(int line, int controls) {
            int gate = 8 * line + controls;
            if (madeFilled >= 0 && madeFilled < madeRow.length) {
                madeRow[madeFilled] = gate;
                madeFilled++;
            }
            for (int value = 0; value < outputs.length; value++) {
                outputs[value] = pass(gate, outputs[value]);
            }
        }

        /** The rule finds the gates from the outputs' side, so the last one comes first. */
        int madeGate(int index) {
            int found = madeFilled - 1 - index;
            return found >= 0 && found < madeRow.length ? madeRow[found] : 0;
        }

        int madeOutput(int value) {
            int output = value;
            for (int i = 0; i < madeFilled; i++) {
                output = pass(madeGate(i), output);
            }
            return output;
        }

        int cycleLength(int value) {
            int times = 1;
            int next = output(value);
            while (times < VALUES && next != value) {
                next = output(next);
                times++;
            }
            return times;
        }

        /** Each cycle has one least value, so that these count the cycles. */
        boolean isLeastOfItsCycle(int value) {
            int next = value;
            for (int i = 0; i < VALUES; i++) {
                next = output(next);
                if (next < value) {
                    return false;
                }
            }
            return true;
        }
    }

    /**
     * The fewest gates for what a circuit does: its outputs, three bits each, in one int. No circuit on three
     * lines needs more than 8, so all that 4 gates can do is kept, and what needs more is put together of two
     * that are kept.
     */
    private static final class GateSearch {
        private static final int HALF = 4;
        private static final int SLOTS = 8192;
        private static final int SLOT_SHIFT = 19;
        private static final int OUTPUTS = 0xFFFFFF;
        private static final int GATES_SHIFT = 24;
        private static final int IDENTITY = 7 << 21 | 6 << 18 | 5 << 15 | 4 << 12 | 3 << 9 | 2 << 6 | 1 << 3;

        /** Outputs with their number of gates above them; 0 is a free slot, as no outputs are all 0. */
        private final int[] slots = new int[SLOTS];

        int find(int outputs) {
            if (kept(IDENTITY) == 0) {
                fill();
            }
            int direct = kept(outputs);
            if (direct != 0) {
                return direct >> GATES_SHIFT;
            }
            for (int gates = 1; gates < HALF; gates++) {
                if (isCompleted(outputs, gates)) {
                    return HALF + gates;
                }
            }
            return HALF + HALF;
        }

        private void fill() {
            keep(IDENTITY, 0);
            for (int gates = 1; gates <= HALF; gates++) {
                for (int i = 0; i < slots.length; i++) {
                    if (slots[i] != 0 && slots[i] >> GATES_SHIFT == gates - 1) {
                        keepFollowers(slots[i] & OUTPUTS, gates);
                    }
                }
            }
        }

        private void keepFollowers(int outputs, int gates) {
            for (int line = 0; line < LINES; line++) {
                for (int controls = 0; controls < VALUES; controls++) {
                    if ((controls & (1 << line)) == 0) {
                        keep(followed(outputs, 8 * line + controls), gates);
                    }
                }
            }
        }

        private static int followed(int outputs, int gate) {
            int next = 0;
            for (int value = 0; value < VALUES; value++) {
                next |= Circuit.pass(gate, outputs >> (3 * value) & 7) << (3 * value);
            }
            return next;
        }

        private void keep(int outputs, int gates) {
            int slot = slotOf(outputs);
            if (slot >= 0 && slot < slots.length && slots[slot] == 0) {
                slots[slot] = outputs | gates << GATES_SHIFT;
            }
        }

        private int kept(int outputs) {
            return inSlot(slotOf(outputs));
        }

        private int inSlot(int slot) {
            return slot >= 0 && slot < slots.length ? slots[slot] : 0;
        }

        /** The slot that has them, or the free one that they belong to: 3520 are kept at most. */
        private int slotOf(int outputs) {
            int slot = outputs * 0x9E3779B1 >>> SLOT_SHIFT;
            for (int i = 0; i < SLOTS && inSlot(slot) != 0 && (inSlot(slot) & OUTPUTS) != outputs; i++) {
                slot = slot + 1 & SLOTS - 1;
            }
            return slot;
        }

        /** What goes back needs as many gates as what goes on, so those kept serve for both. */
        private boolean isCompleted(int outputs, int gates) {
            for (int i = 0; i < slots.length; i++) {
                if (slots[i] != 0 && slots[i] >> GATES_SHIFT == gates
                        && kept(joined(outputs, slots[i])) != 0) {
                    return true;
                }
            }
            return false;
        }

        private static int joined(int first, int second) {
            int both = 0;
            for (int value = 0; value < VALUES; value++) {
                int between = first >> (3 * value) & 7;
                both |= (second >> (3 * between) & 7) << (3 * value);
            }
            return both;
        }
    }

    /** Pebbles on a line, as bits: the first place is bit 0. */
    private static final class PebbleLine {
        private static final int LINES_OF_PEBBLES = 1 << MOST_PLACES;

        private final int[] moves = new int[LINES_OF_PEBBLES];
        private final int[] waiting = new int[LINES_OF_PEBBLES];
        private int filled;

        /** The fewest moves from the empty line to just the last place, or -1. */
        int fewestMoves(int places, int pebbles) {
            Arrays.fill(moves, -1);
            filled = 0;
            reach(0, 0);
            for (int i = 0; i < filled && i < waiting.length; i++) {
                int now = waiting[i];
                for (int place = 0; place < places; place++) {
                    int next = now ^ (1 << place);
                    if (isMovable(now, place) && Integer.bitCount(next) <= pebbles) {
                        reach(next, movesTo(now) + 1);
                    }
                }
            }
            return movesTo(1 << (places - 1));
        }

        private static boolean isMovable(int now, int place) {
            return place == 0 || (now & (1 << (place - 1))) != 0;
        }

        private int movesTo(int pebbled) {
            return pebbled >= 0 && pebbled < moves.length ? moves[pebbled] : -1;
        }

        private void reach(int pebbled, int count) {
            if (pebbled < 0 || pebbled >= moves.length || moves[pebbled] >= 0) {
                return;
            }
            moves[pebbled] = count;
            if (filled >= 0 && filled < waiting.length) {
                waiting[filled] = pebbled;
                filled++;
            }
        }
    }
}
