import java.util.ArrayDeque;
import java.util.ArrayList;
import java.util.Arrays;
import java.util.Collections;
import java.util.Deque;
import java.util.List;

/**
 * A second reading of the document for tests: faults by a row of states, texts as trees, and runs that walk
 * through the trees instead of stepping through places.
 */
final class Model {

    private Model() {
    }

    // ---- faults

    private enum Want { ROW, STATEMENT, BEHIND, CHANGE, PARTNER, STACKED, DIGIT, TERM, NUMBER, BEHIND_TERM }

    /** The fault of a text as its place and its letter, or "none". */
    static String fault(String text) {
        Deque<int[]> open = new ArrayDeque<>();
        Want want = Want.ROW;
        int begin = 0;
        char own = ' ';
        boolean isOwn = false;
        int term = 0;
        int digits = 0;
        int i = 0;
        while (true) {
            char sign = i < text.length() ? text.charAt(i) : '\uffff';
            boolean isVariable = "abcdefgh".indexOf(sign) >= 0;
            boolean isEnd = open.isEmpty() ? i == text.length() : sign == (open.peek()[1] == 1 ? '|' : ':');
            switch (want) {
                case ROW:
                case BEHIND:
                    if (isEnd) {
                        if (open.isEmpty()) {
                            return "none";
                        }
                        open.peek()[1]++;
                        term = open.peek()[1] == 3 ? 2 : 0;
                        want = open.peek()[1] == 3 ? Want.TERM : Want.ROW;
                        i++;
                        break;
                    }
                    if (want == Want.BEHIND) {
                        if (sign != ';') {
                            return i + "e";
                        }
                        want = Want.STATEMENT;
                        i++;
                        break;
                    }
                    want = Want.STATEMENT;
                    break;
                case STATEMENT:
                    begin = i;
                    if (isVariable) {
                        own = sign;
                        isOwn = false;
                        want = Want.CHANGE;
                    } else if (sign == '!' || sign == '?') {
                        want = Want.STACKED;
                    } else if (sign == '@' || sign == '$') {
                        want = Want.DIGIT;
                    } else if (sign == '[' || sign == '{') {
                        if (open.size() == 6) {
                            return i + "m";
                        }
                        open.push(new int[] {sign == '[' ? ']' : '}', 0});
                        term = 2;
                        want = Want.TERM;
                    } else {
                        return i + "s";
                    }
                    i++;
                    break;
                case CHANGE:
                    if ("+-^".indexOf(sign) >= 0) {
                        term = 0;
                        want = Want.TERM;
                    } else if (sign == '~') {
                        want = Want.PARTNER;
                    } else {
                        return i + "o";
                    }
                    i++;
                    break;
                case PARTNER:
                    if (!isVariable || sign == own) {
                        return i + (isVariable ? "r" : "v");
                    }
                    want = Want.BEHIND;
                    i++;
                    break;
                case STACKED:
                    if (!isVariable) {
                        return i + "v";
                    }
                    want = Want.BEHIND;
                    i++;
                    break;
                case DIGIT:
                    if ("012345".indexOf(sign) < 0) {
                        return i + "n";
                    }
                    want = Want.BEHIND;
                    i++;
                    break;
                case TERM:
                    if (isVariable) {
                        isOwn = isOwn || sign == own;
                        want = Want.BEHIND_TERM;
                    } else if ("0123456789".indexOf(sign) >= 0) {
                        digits = 1;
                        want = Want.NUMBER;
                    } else {
                        return i + "t";
                    }
                    i++;
                    break;
                case NUMBER:
                    if ("0123456789".indexOf(sign) >= 0 && digits < 3) {
                        digits++;
                        i++;
                    } else {
                        want = Want.BEHIND_TERM;
                    }
                    break;
                default:
                    if (term == 0 && "+-*&".indexOf(sign) >= 0) {
                        term = 1;
                        want = Want.TERM;
                        i++;
                    } else if (term < 2) {
                        if (isOwn) {
                            return begin + "r";
                        }
                        want = Want.BEHIND;
                    } else if (term == 2) {
                        if ("<=>".indexOf(sign) < 0) {
                            return i + "c";
                        }
                        term = 3;
                        want = Want.TERM;
                        i++;
                    } else if (open.peek()[1] == 0) {
                        if (sign != ':') {
                            return i + "d";
                        }
                        open.peek()[1] = 1;
                        want = Want.ROW;
                        i++;
                    } else {
                        if (sign != open.peek()[0]) {
                            return i + "x";
                        }
                        open.pop();
                        want = Want.BEHIND;
                        i++;
                    }
            }
        }
    }

    // ---- trees

    static final class Statement {
        char sign;
        String left = "";
        String right = "";
        String begin;
        String end;
        List<Statement> first = new ArrayList<>();
        List<Statement> second = new ArrayList<>();
        int place;
        int middle;
        int close;
    }

    static final class Tree {
        final List<Statement> row;
        final int size;

        Tree(String text) {
            Cursor cursor = new Cursor(text);
            row = cursor.row();
            size = cursor.places;
        }
    }

    private static final class Cursor {
        final String text;
        int at = 0;
        int places = 0;

        Cursor(String text) {
            this.text = text;
        }

        List<Statement> row() {
            List<Statement> row = new ArrayList<>();
            while (at < text.length() && "|:".indexOf(text.charAt(at)) < 0) {
                if (text.charAt(at) == ';') {
                    at++;
                }
                row.add(statement());
            }
            return row;
        }

        String upTo(String ends) {
            int from = at;
            while (at < text.length() && ends.indexOf(text.charAt(at)) < 0) {
                at++;
            }
            return text.substring(from, at);
        }

        Statement statement() {
            Statement one = new Statement();
            char sign = text.charAt(at);
            one.place = places++;
            if ("[{".indexOf(sign) >= 0) {
                one.sign = sign;
                at++;
                one.begin = upTo(":");
                at++;
                one.first = row();
                one.middle = places++;
                at++;
                one.second = row();
                one.close = places++;
                at++;
                one.end = upTo("]}");
                at++;
            } else if ("!?@$".indexOf(sign) >= 0) {
                one.sign = sign;
                one.left = text.substring(at + 1, at + 2);
                at += 2;
            } else {
                one.left = text.substring(at, at + 1);
                one.sign = text.charAt(at + 1);
                at += 2;
                one.right = upTo(";|:");
            }
            return one;
        }
    }

    // ---- the way back

    static String back(List<Statement> row) {
        List<String> parts = new ArrayList<>();
        for (Statement one : row) {
            parts.add(0, back(one));
        }
        return String.join(";", parts);
    }

    private static String plain(String terms) {
        return terms.replaceAll("(?<![0-9])0+(?=[0-9])", "");
    }

    private static String back(Statement one) {
        String turned = "+-!?@$";
        String with = "-+?!$@";
        char sign = turned.indexOf(one.sign) < 0 ? one.sign : with.charAt(turned.indexOf(one.sign));
        if ("[{".indexOf(sign) >= 0) {
            return sign + plain(one.end) + ":" + back(one.first) + "|" + back(one.second) + ":" + plain(one.begin)
                    + (sign == '[' ? ']' : '}');
        }
        return "!?@$".indexOf(sign) >= 0 ? sign + one.left : one.left + sign + plain(one.right);
    }

    // ---- walks

    static final class Stop extends RuntimeException {
        private static final long serialVersionUID = 1L;
        final String why;

        Stop(String why) {
            super(why);
            this.why = why;
        }
    }

    /** A walk through procedures, which notes where each step begins. */
    static final class Walk {
        final List<Tree> trees;
        final int[] values;
        final List<Integer> stack;
        final int most;
        final List<String> notes = new ArrayList<>();
        int steps = 0;
        String why = "";

        Walk(List<Tree> trees, int[] values, List<Integer> stack, int most) {
            this.trees = trees;
            this.values = values.clone();
            this.stack = new ArrayList<>(stack);
            this.most = most;
        }

        /** Walks through a procedure; false if that breaks, or takes too many steps. */
        boolean walk(int procedure, boolean isAhead) {
            try {
                row(trees.get(procedure).row, procedure, isAhead, 0);
                return true;
            } catch (Stop stop) {
                why = stop.why;
                return false;
            }
        }

        private void row(List<Statement> row, int procedure, boolean isAhead, int depth) {
            List<Statement> order = new ArrayList<>(row);
            if (!isAhead) {
                Collections.reverse(order);
            }
            for (Statement one : order) {
                if (one.sign == '[') {
                    choice(one, procedure, isAhead, depth);
                } else if (one.sign == '{') {
                    loop(one, procedure, isAhead, depth);
                } else {
                    begin(procedure, isAhead ? one.place : one.place + 1, isAhead, depth);
                    simple(one, isAhead, depth);
                }
            }
        }

        private void begin(int procedure, int place, boolean isAhead, int depth) {
            if (steps == most) {
                throw new Stop("most");
            }
            notes.add(procedure + " " + place + " " + isAhead + " " + depth);
        }

        private void test(String test, boolean isWanted, int place, char sign) {
            if (holds(test) != isWanted) {
                throw new Stop("t" + place + sign + (isWanted ? 1 : 0));
            }
            steps++;
        }

        private void choice(Statement one, int procedure, boolean isAhead, int depth) {
            begin(procedure, isAhead ? one.place : one.close + 1, isAhead, depth);
            boolean isFirst = holds(isAhead ? one.begin : one.end);
            steps++;
            row(isFirst ? one.first : one.second, procedure, isAhead, depth);
            if (isAhead) {
                begin(procedure, isFirst ? one.middle : one.close, true, depth);
                test(one.end, isFirst, isFirst ? one.middle : one.close, isFirst ? '|' : ']');
            } else {
                begin(procedure, isFirst ? one.place + 1 : one.middle + 1, false, depth);
                test(one.begin, isFirst, isFirst ? one.place : one.middle, isFirst ? '[' : '|');
            }
        }

        private void loop(Statement one, int procedure, boolean isAhead, int depth) {
            begin(procedure, isAhead ? one.place : one.close + 1, isAhead, depth);
            test(isAhead ? one.begin : one.end, true, isAhead ? one.place : one.close, isAhead ? '{' : '}');
            while (true) {
                row(one.first, procedure, isAhead, depth);
                begin(procedure, isAhead ? one.middle : one.place + 1, isAhead, depth);
                boolean isOver = holds(isAhead ? one.end : one.begin);
                steps++;
                if (isOver) {
                    return;
                }
                row(one.second, procedure, isAhead, depth);
                begin(procedure, isAhead ? one.close : one.middle + 1, isAhead, depth);
                test(isAhead ? one.begin : one.end, false, isAhead ? one.close : one.middle, isAhead ? '}' : '/');
            }
        }

        private void simple(Statement one, boolean isAhead, int depth) {
            int number = one.left.charAt(0) - ("@$".indexOf(one.sign) >= 0 ? '0' : 'a');
            switch (one.sign) {
                case '@':
                case '$':
                    if (number >= trees.size()) {
                        throw new Stop("p" + number);
                    }
                    if (depth == 20) {
                        throw new Stop("d20");
                    }
                    steps++;
                    row(trees.get(number).row, number, one.sign == '@' ? isAhead : !isAhead, depth + 1);
                    return;
                case '!':
                    move(number, isAhead);
                    break;
                case '?':
                    move(number, !isAhead);
                    break;
                case '~':
                    int other = one.right.charAt(0) - 'a';
                    int kept = values[number];
                    values[number] = values[other];
                    values[other] = kept;
                    break;
                case '^':
                    values[number] ^= sum(one.right);
                    break;
                default:
                    values[number] += (one.sign == '+') == isAhead ? sum(one.right) : -sum(one.right);
            }
            steps++;
        }

        private void move(int number, boolean isOntoStack) {
            if (isOntoStack) {
                if (stack.size() == 20) {
                    throw new Stop("f20");
                }
                stack.add(values[number]);
                values[number] = 0;
            } else {
                if (values[number] != 0) {
                    throw new Stop("z" + number);
                }
                if (stack.isEmpty()) {
                    throw new Stop("e" + number);
                }
                values[number] = stack.remove(stack.size() - 1);
            }
        }

        private int term(String term) {
            return Character.isDigit(term.charAt(0)) ? Integer.parseInt(term) : values[term.charAt(0) - 'a'];
        }

        private int sum(String sum) {
            String[] terms = sum.split("[-+*&]");
            if (terms.length == 1) {
                return term(sum);
            }
            int one = term(terms[0]);
            int other = term(terms[1]);
            switch (sum.charAt(terms[0].length())) {
                case '+': return one + other;
                case '-': return one - other;
                case '*': return one * other;
                default: return one & other;
            }
        }

        boolean holds(String test) {
            String[] terms = test.split("[<=>]");
            int compared = Integer.compare(term(terms[0]), term(terms[1]));
            char sign = test.charAt(terms[0].length());
            return sign == '<' ? compared < 0 : sign == '>' ? compared > 0 : compared == 0;
        }

        String seen() {
            return Arrays.toString(values) + stack;
        }
    }
}
