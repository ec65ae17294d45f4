import java.util.ArrayDeque;
import java.util.ArrayList;
import java.util.Deque;
import java.util.List;
import java.util.Random;

/**
 * Promises 3 and 4 by many texts: made ones are broken at random, and the fault is sought once more, by a
 * grammar on a stack in place of methods that call one another.
 */
public final class FaultsTest {
    private static final Check CHECK = new Check();

    record Token(int place, String word, int sort) {
    }

    /** sort: 0 the end, 1 a word, 2 a number, 3 a sign, 4 none. */
    static List<Token> tokens(String text) {
        List<Token> row = new ArrayList<>();
        int i = 0;
        while (true) {
            while (i < text.length() && " \n".indexOf(text.charAt(i)) >= 0) {
                i++;
            }
            if (i == text.length()) {
                row.add(new Token(i, "", 0));
                return row;
            }
            String rest = text.substring(i);
            String word = rest.replaceFirst("(?s)^([a-z]+).*$", "$1");
            int sort = 1;
            if (!rest.matches("(?s)^[a-z]+.*$")) {
                word = rest.replaceFirst("(?s)^([0-9]+).*$", "$1");
                sort = 2;
                if (!rest.matches("(?s)^[0-9]+.*$")) {
                    word = rest.substring(0, 1);
                    sort = ";+-*()[]=<>".contains(word) ? 3 : 4;
                } else if (word.length() > 3) {
                    sort = 4;
                }
            }
            row.add(new Token(i, word, sort));
            i += word.length();
        }
    }

    /** A park's text as it stands on a stack of what is still to come; what is found is 10 * place + kind, or 0. */
    static int seek(String text) {
        Deque<String> stack = new ArrayDeque<>();
        push(stack, "'park WIDE HIGH '; LINES");
        int wide = 0;
        int high = 0;
        int walkers = 0;
        int depth = 0;
        int x = 0;
        int[] errands = new int[5];
        boolean[] walls = new boolean[36];
        boolean hedge = false;
        boolean wall = false;
        boolean walker = false;
        int cell = 0;
        for (Token t : tokens(text)) {
            if (t.sort == 4) {
                return 10 * t.place + 1;
            }
            boolean taken = false;
            while (!taken) {
                if (stack.isEmpty()) {
                    return 10 * t.place + (t.sort == 0 ? 0 : 2);
                }
                String top = stack.pop();
                if (top.startsWith("'")) {
                    if (!top.substring(1).equals(t.word)) {
                        return 10 * t.place + 2;
                    }
                    taken = true;
                    continue;
                }
                int n = t.sort == 2 ? Integer.parseInt(t.word) : -1;
                boolean number = false;
                boolean out = false;
                switch (top) {
                    case "UP" -> depth--;
                    case "LINES" -> {
                        if (t.sort == 0) {
                            return 0;
                        }
                        hedge = t.word.equals("hedge");
                        wall = t.word.equals("wall");
                        walker = t.word.equals("walker");
                        push(stack, "LINE '; LINES");
                    }
                    case "LINE" -> {
                        taken = true;
                        switch (t.word) {
                            case "hedge" -> push(stack, "X Y KIND THICK");
                            case "wall" -> {
                                if (walkers > 0) {
                                    return 10 * t.place + 2;
                                }
                                push(stack, "X Y");
                            }
                            case "walker" -> {
                                if (walkers == 5) {
                                    return 10 * t.place + 4;
                                }
                                push(stack, "X Y FREE AGE TOLD");
                            }
                            case "errand" -> push(stack, "WALKER X Y ANY");
                            case "grows" -> push(stack, "TRUTH");
                            case "winter" -> push(stack, "WINTER");
                            default -> {
                                return 10 * t.place + 2;
                            }
                        }
                    }
                    case "TOLD" -> walkers++;
                    case "FREE" -> taken = t.word.equals("free");
                    case "AGE" -> {
                        if (t.word.equals("age")) {
                            taken = true;
                            push(stack, "ANY");
                        }
                    }
                    case "KIND" -> {
                        if (!List.of("box", "yew", "beech").contains(t.word)) {
                            return 10 * t.place + 2;
                        }
                        taken = true;
                    }
                    case "WIDE" -> {
                        number = true;
                        out = n < 2 || n > 6;
                        wide = n;
                    }
                    case "HIGH" -> {
                        number = true;
                        out = n < 2 || n > 6;
                        high = n;
                    }
                    case "X" -> {
                        number = true;
                        out = n >= wide;
                        x = n;
                    }
                    case "Y" -> {
                        number = true;
                        out = n >= high;
                        if (!out && n >= 0) {
                            cell = n * wide + x;
                            out = walker && walls[cell];
                            walls[cell] = (walls[cell] || wall) && !hedge;
                        }
                    }
                    case "THICK" -> {
                        number = true;
                        out = n < 1 || n > 60;
                    }
                    case "WINTER" -> {
                        number = true;
                        out = n < 2 || n > 9;
                    }
                    case "WALKER" -> {
                        number = true;
                        out = n >= walkers;
                        if (!out && n >= 0 && ++errands[n] > 4) {
                            return 10 * t.place + 4;
                        }
                    }
                    case "ANY" -> number = true;
                    case "TRUTH" -> push(stack, "BOTH ORS");
                    case "ORS" -> {
                        taken = t.word.equals("or");
                        push(stack, taken ? "BOTH ORS" : "");
                    }
                    case "BOTH" -> push(stack, "UNIT ANDS");
                    case "ANDS" -> {
                        taken = t.word.equals("and");
                        push(stack, taken ? "UNIT ANDS" : "");
                    }
                    case "UNIT" -> {
                        if (t.word.equals("not") || t.word.equals("[")) {
                            if (++depth > 6) {
                                return 10 * t.place + 4;
                            }
                            taken = true;
                            push(stack, t.word.equals("not") ? "UNIT UP" : "TRUTH '] UP");
                        } else {
                            push(stack, "SUM COMPARE SUM");
                        }
                    }
                    case "COMPARE" -> {
                        if (!List.of("=", "<", ">").contains(t.word)) {
                            return 10 * t.place + 2;
                        }
                        taken = true;
                    }
                    case "SUM" -> push(stack, "TERM SUMS");
                    case "SUMS" -> {
                        taken = t.word.equals("+") || t.word.equals("-");
                        push(stack, taken ? "TERM SUMS" : "");
                    }
                    case "TERM" -> push(stack, "ATOM TERMS");
                    case "TERMS" -> {
                        taken = t.word.equals("*");
                        push(stack, taken ? "ATOM TERMS" : "");
                    }
                    case "ATOM" -> {
                        taken = true;
                        if (t.word.equals("(")) {
                            if (++depth > 6) {
                                return 10 * t.place + 4;
                            }
                            push(stack, "SUM ') UP");
                        } else if (n < 0 && !List.of("x", "y", "kind", "thick", "near", "night").contains(t.word)) {
                            return 10 * t.place + 2;
                        }
                    }
                    default -> throw new IllegalStateException(top);
                }
                if (number) {
                    if (n < 0) {
                        return 10 * t.place + 2;
                    }
                    if (out) {
                        return 10 * t.place + 3;
                    }
                    taken = true;
                }
            }
        }
        return 0;
    }

    private static void push(Deque<String> stack, String symbols) {
        String[] row = symbols.trim().split(" ");
        for (int i = row.length - 1; i >= 0; i--) {
            if (!row[i].isEmpty()) {
                stack.push(row[i]);
            }
        }
    }

    private static final String[] PIECES = {"park", "hedge", "wall", "walker", "errand", "grows", "winter", "free",
        "age", "box", "yew", "beech", "not", "and", "or", "x", "y", "kind", "thick", "near", "night", ";", "+", "-",
        "*", "(", ")", "[", "]", "=", "<", ">", "0", "1", "2", "5", "6", "7", "60", "61", "999", "1000", "00012",
        "A", "\t", "!", "\u00e9", "", "oak"};

    private static String broken(Random random, String text) {
        String piece = PIECES[random.nextInt(PIECES.length)];
        int at = random.nextInt(text.length() + 1);
        int to = Math.min(text.length(), at + random.nextInt(4));
        switch (random.nextInt(5)) {
            case 0: return text.substring(0, at) + " " + piece + " " + text.substring(at);
            case 1: return text.substring(0, at) + piece + text.substring(to);
            case 2: return text.substring(0, at) + text.substring(to);
            case 3: return text.substring(0, at);
            default:
                List<Token> row = tokens(text);
                Token t = row.get(random.nextInt(row.size()));
                return text.substring(0, t.place) + piece + text.substring(t.place + t.word.length());
        }
    }

    private static void compare(HedgePark park, String text) {
        int want = seek(text);
        int lines = Check.lay(park, text);
        if (want == 0) {
            int due = (int) text.chars().filter(c -> c == ';').count();
            CHECK.due("park of " + text, lines, due);
            CHECK.due("fault(0) of " + text, park.fault(0), 0);
            CHECK.due("fault(1) of " + text, park.fault(1), HedgePark.NONE);
        } else {
            CHECK.due("park of " + text, lines, -10 - want % 10);
            CHECK.due("fault(0) of " + text, park.fault(0), want % 10);
            CHECK.due("fault(1) of " + text, park.fault(1), want / 10);
        }
        CHECK.due("tape behind " + text, park.count(9), 0);
    }

    public static void main(String[] args) {
        Random random = new Random(7);
        for (int i = 0; i < 30000; i++) {
            HedgePark park = new HedgePark();
            String text = Garden.random(random, 6).text();
            for (int j = random.nextInt(3); j > 0; j--) {
                text = broken(random, text);
            }
            if (text.length() <= 900) {
                compare(park, text);
            }
        }
        CHECK.end("FaultsTest");
    }
}
