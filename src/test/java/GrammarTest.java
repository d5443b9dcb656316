import java.util.ArrayList;
import java.util.LinkedHashMap;
import java.util.LinkedHashSet;
import java.util.List;
import java.util.Map;
import java.util.Random;
import java.util.Set;

/**
 * The grammar of both languages as the document writes it, as data, and a recogniser for any grammar (Earley's), which
 * knows of each row of tokens whether some text begins so: every row of a few tokens that can begin a text is tried
 * with every token behind it, and rows by draws of many tokens; the class tells the FAULT at the same place.
 */
public final class GrammarTest {
    private static final int EVERY_ROW = 7;
    private static final int WALKS = 300;
    private static final int WALK = 40;

    private static final String BOTH_LANGUAGES =
        "TEST = BOTH | TEST or BOTH; BOTH = PLAIN | BOTH and PLAIN; PLAIN = not PLAIN | ( TEST ) | SUM < SUM | SUM > SUM | SUM = SUM;"
        + "SUM = TERM | SUM + TERM | SUM - TERM; TERM = PART | TERM * PART | TERM / PART | TERM % PART;"
        + "PART = 0..1000 | [ SUM ] | WORD;";
    private static final String LAWS = BOTH_LANGUAGES
        + "TEXT = CLAUSE | TEXT SEMICOLON CLAUSE; CLAUSE = HEAD | HEAD if TEST; HEAD = lends SUM | costs SUM | bars;"
        + "WORD = person | hour | fact | with | worth | loan | days | today | mood;";
    private static final String ORDERS = BOTH_LANGUAGES
        + "TEXT = CLAUSE | TEXT SEMICOLON CLAUSE; CLAUSE = OFTEN | OFTEN if TEST; OFTEN = HEAD | HEAD times 1..20;"
        + "HEAD = pawn SUM of SUM | redeem SUM of SUM | pass;"
        + "WORD = now | done | last | purse 0..5 | held 0..5 | knows 0..5 0..7;";

    /** Few of each kind for all rows of a few tokens, all of them for long rows. */
    private static final String FEW_OF_LAWS = "lends bars if or not ( ) [ ] + * < ; 7 1001 worth pass x";
    private static final String FEW_OF_ORDERS = "pawn pass of times if and not ( ] = ; 0 6 20 now knows worth #";
    private static final String ALL_OF_LAWS = "lends costs bars if or and not ( ) [ ] + - * / % < > = ; 0 7 0031 1000 1001 person hour fact"
        + " with worth loan days today mood now purse pawn pass of times x If ~ , lend barss";
    private static final String ALL_OF_ORDERS = "pawn redeem pass of times if or and not ( ) [ ] + - * / % < > = ; 0 5 6 7 8 020 20 21 1000 1001"
        + " 99999999999 now done last purse held knows lends bars worth x If ~ , passs paw";

    private final boolean orders;
    private final String[] tokens;
    private final Map<String, List<String[]>> rules = new LinkedHashMap<>();
    private final List<String> text = new ArrayList<>();
    /** Of each number of tokens ahead: how far each rule can have come by then. */
    private final List<Set<Item>> chart = new ArrayList<>();
    private PawnedHours street = new PawnedHours();
    private int calls = 0;
    private int laws = 0;

    record Item(String name, int rule, int dot, int from) {
    }

    private GrammarTest(boolean orders, String tokens) {
        this.orders = orders;
        this.tokens = tokens.split(" ");
        for (String rule : (orders ? ORDERS : LAWS).split(";")) {
            int sign = rule.indexOf('=');
            List<String[]> ways = new ArrayList<>();
            for (String way : rule.substring(sign + 1).split("\\|")) {
                ways.add(way.trim().split(" +"));
            }
            rules.put(rule.substring(0, sign).trim(), ways);
        }
        Set<Item> first = new LinkedHashSet<>();
        expect("TEXT", 0, first);
        close(first, 0);
        chart.add(first);
    }

    public static void main(String[] args) {
        new GrammarTest(false, FEW_OF_LAWS).everyRow();
        new GrammarTest(true, FEW_OF_ORDERS).everyRow();
        Random random = new Random(39);
        for (int i = 0; i < WALKS; i++) {
            new GrammarTest(false, ALL_OF_LAWS).walk(random);
            new GrammarTest(true, ALL_OF_ORDERS).walk(random);
        }
        Check.end();
    }

    /** Goes on with every token that can stand here, and looks at every one that can't. */
    private void everyRow() {
        lookAtEnd();
        for (String token : tokens) {
            if (!take(token)) {
                lookAtFault(token);
            } else if (text.size() < EVERY_ROW) {
                everyRow();
                drop();
            } else {
                lookAtEnd();
                drop();
            }
        }
    }

    private void walk(Random random) {
        int open = 0;
        int clauses = 1;
        while (text.size() < WALK) {
            lookAtEnd();
            List<String> can = new ArrayList<>();
            for (String token : tokens) {
                if (!take(token)) {
                    lookAtFault(token);
                    continue;
                }
                drop();
                boolean tooMuch = "([".contains(token) && open == 8 || token.equals(";") && clauses == 12;
                if (!tooMuch) {
                    can.add(token);
                }
            }
            String next = can.get(random.nextInt(can.size()));
            open += "([".contains(next) ? 1 : ")]".contains(next) ? -1 : 0;
            clauses += next.equals(";") ? 1 : 0;
            take(next);
        }
    }

    private static boolean fits(String symbol, String token) {
        int dots = symbol.indexOf("..");
        if (dots < 0) {
            return symbol.equals(token) || symbol.equals("SEMICOLON") && token.equals(";");
        }
        if (!token.matches("[0-9]+")) {
            return false;
        }
        long number = Long.parseLong(token);
        return number >= Long.parseLong(symbol.substring(0, dots)) && number <= Long.parseLong(symbol.substring(dots + 2));
    }

    private String behindDot(Item item) {
        String[] way = rules.get(item.name).get(item.rule);
        return item.dot < way.length ? way[item.dot] : null;
    }

    private void expect(String name, int from, Set<Item> into) {
        for (int rule = 0; rule < rules.get(name).size(); rule++) {
            into.add(new Item(name, rule, 0, from));
        }
    }

    private void close(Set<Item> items, int here) {
        List<Item> open = new ArrayList<>(items);
        for (int i = 0; i < open.size(); i++) {
            Item item = open.get(i);
            String symbol = behindDot(item);
            Set<Item> more = new LinkedHashSet<>();
            if (symbol == null) {
                for (Item waiting : item.from == here ? items : chart.get(item.from)) {
                    if (item.name.equals(behindDot(waiting))) {
                        more.add(new Item(waiting.name, waiting.rule, waiting.dot + 1, waiting.from));
                    }
                }
            } else if (rules.containsKey(symbol)) {
                expect(symbol, here, more);
            }
            for (Item one : more) {
                if (items.add(one)) {
                    open.add(one);
                }
            }
        }
    }

    /** Whether some text begins with the row so far and this token; then that is the row. */
    private boolean take(String token) {
        Set<Item> next = new LinkedHashSet<>();
        for (Item item : chart.get(text.size())) {
            String symbol = behindDot(item);
            if (symbol != null && fits(symbol, token)) {
                next.add(new Item(item.name, item.rule, item.dot + 1, item.from));
            }
        }
        if (next.isEmpty()) {
            return false;
        }
        close(next, text.size() + 1);
        chart.add(next);
        text.add(token);
        return true;
    }

    private void drop() {
        chart.remove(chart.size() - 1);
        text.remove(text.size() - 1);
    }

    private boolean isWhole() {
        for (Item item : chart.get(text.size())) {
            if (item.name.equals("TEXT") && item.from == 0 && behindDot(item) == null) {
                return true;
            }
        }
        return false;
    }

    private static boolean touch(char one, char other) {
        return Character.isDigit(one) && Character.isDigit(other) || Character.isLowerCase(one) && Character.isLowerCase(other);
    }

    private String written() {
        StringBuilder bytes = new StringBuilder();
        for (int i = 0; i < text.size(); i++) {
            String token = text.get(i);
            boolean must = i > 0 && touch(bytes.charAt(bytes.length() - 1), token.charAt(0));
            bytes.append(must || i % 3 == 1 ? " " : "").append(token);
        }
        return bytes.toString();
    }

    private void lookAtEnd() {
        String bytes = written();
        look(bytes, isWhole() ? -1 : bytes.length());
    }

    private void lookAtFault(String token) {
        String ahead = written() + " ";
        look(ahead + token + (calls % 2 == 0 ? "" : " 1;" + tokens[calls % tokens.length]), ahead.length());
    }

    private void look(String bytes, int fault) {
        if (bytes.length() > 400) {
            return;
        }
        if (calls > 440 || laws == 6) {
            street = new PawnedHours();
            calls = 0;
            laws = 0;
        }
        street.end(0);
        for (int i = 0; i < bytes.length(); i += 20) {
            street.feed(four(bytes, i), four(bytes, i + 4), four(bytes, i + 8), four(bytes, i + 12), four(bytes, i + 16));
        }
        street.end(bytes.length());
        int answer = orders ? street.orders() : street.law();
        calls += 5 + bytes.length() / 20;
        laws += answer >= 0 ? 1 : 0;
        Check.due("FAULT of " + bytes, street.fault(), fault);
        Check.due("whether REFUSED by -6: " + bytes, answer == -6 ? 1 : 0, fault == -1 ? 0 : 1);
    }

    private static int four(String bytes, int from) {
        int number = 0;
        for (int i = from; i < from + 4; i++) {
            number = number << 8 | (i < bytes.length() ? bytes.charAt(i) : 0);
        }
        return number;
    }
}
