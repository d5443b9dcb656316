import java.util.Random;

/** Writes laws and orders by draws, some with a fault somewhere. */
final class Writer {
    private static final String[] LAW_WORDS =
        {"person", "hour", "fact", "with", "worth", "loan", "days", "today", "mood"};
    private static final String[] STRAY_TOKENS =
        {"if", "or", "and", "not", "(", ")", "[", "]", ";", "+", "-", "*", "/", "%", "<", ">", "=", "0", "1001",
         "lends", "costs", "bars", "pawn", "redeem", "pass", "of", "times", "purse", "knows", "held", "worth",
         "now", "A", "\t", "~", "x", "notx", "9", "00007", "99999999999999999999"};

    private final Random random;
    private final boolean orders;
    private final StringBuilder text = new StringBuilder();

    Writer(Random random, boolean orders) {
        this.random = random;
        this.orders = orders;
    }

    String write() {
        int clauses = random.nextInt(25) == 0 ? 11 + random.nextInt(4) : 1 + random.nextInt(4);
        for (int i = 0; i < clauses; i++) {
            if (i > 0) {
                put(";");
            }
            clause(clauses > 5);
        }
        String whole = text.toString();
        if (random.nextInt(5) == 0) {
            whole = spoiled(whole);
        }
        return whole.length() > 400 ? whole.substring(0, 400) : whole;
    }

    private String spoiled(String whole) {
        int at = random.nextInt(whole.length() + 1);
        int to = Math.min(whole.length(), at + random.nextInt(4));
        return switch (random.nextInt(4)) {
            case 0 -> whole.substring(0, at);
            case 1 -> whole.substring(0, at) + whole.substring(to);
            case 2 -> whole.substring(0, at) + (char) random.nextInt(256) + whole.substring(at);
            default -> whole.substring(0, at) + " " + STRAY_TOKENS[random.nextInt(STRAY_TOKENS.length)] + " "
                + whole.substring(to);
        };
    }

    private void put(String token) {
        boolean touches = text.length() > 0 && Character.isLetterOrDigit(text.charAt(text.length() - 1))
            && Character.isLetterOrDigit(token.charAt(0));
        if (touches || random.nextInt(4) == 0) {
            text.append(random.nextInt(9) == 0 ? "  " : " ");
        }
        text.append(token);
    }

    private void clause(boolean brief) {
        if (orders) {
            int verb = random.nextInt(3);
            put(verb == 0 ? "pawn" : verb == 1 ? "redeem" : "pass");
            if (verb < 2) {
                index(11);
                put("of");
                index(2);
            }
            if (random.nextInt(3) == 0) {
                put("times");
                put("" + (1 + random.nextInt(random.nextInt(9) == 0 ? 22 : 3)));
            }
        } else {
            int verb = random.nextInt(3);
            put(verb == 0 ? "lends" : verb == 1 ? "costs" : "bars");
            if (verb < 2) {
                sum(brief ? 1 : 3);
            }
            if (verb == 2 && random.nextInt(6) != 0) {
                put("if");
                test(2);
                return;
            }
        }
        if (random.nextInt(2) == 0) {
            put("if");
            test(brief ? 1 : 3);
        }
    }

    /** Mostly a number that can be, so that orders get somewhere. */
    private void index(int most) {
        if (random.nextInt(5) == 0) {
            sum(2);
        } else {
            put("" + random.nextInt(most + 1));
        }
    }

    private void test(int depth) {
        int draw = depth <= 0 ? 0 : random.nextInt(7);
        if (draw == 1) {
            test(depth - 1);
            put("or");
            test(depth - 1);
        } else if (draw == 2) {
            test(depth - 1);
            put("and");
            test(depth - 1);
        } else if (draw == 3) {
            put("not");
            test(depth - 1);
        } else if (draw == 4) {
            int more = random.nextInt(12) == 0 ? 9 : 1;
            for (int i = 0; i < more; i++) {
                put("(");
            }
            test(depth - 1);
            for (int i = 0; i < more; i++) {
                put(")");
            }
        } else {
            sum(2);
            put(random.nextInt(3) == 0 ? "<" : random.nextInt(2) == 0 ? ">" : "=");
            sum(2);
        }
    }

    private void sum(int depth) {
        int draw = depth <= 0 ? 0 : random.nextInt(12);
        if (draw >= 1 && draw <= 5) {
            sum(depth - 1);
            put(new String[] {"+", "-", "*", "/", "%"}[draw - 1]);
            sum(depth - 1);
        } else if (draw == 6) {
            int more = random.nextInt(9) == 0 ? random.nextInt(10) : 1;
            for (int i = 0; i < more; i++) {
                put("[");
            }
            sum(depth - 1);
            for (int i = 0; i < more; i++) {
                put("]");
            }
        } else if (draw == 7 && random.nextInt(4) == 0) {
            put("1000*1000*1000");
            put(random.nextBoolean() ? "+" : "-");
            sum(0);
        } else if (random.nextInt(2) == 0) {
            put("" + (random.nextInt(20) == 0 ? 995 + random.nextInt(8) : random.nextInt(12)));
        } else {
            word();
        }
    }

    private void word() {
        if (!orders) {
            put(LAW_WORDS[random.nextInt(LAW_WORDS.length)]);
            return;
        }
        switch (random.nextInt(6)) {
            case 0 -> put("now");
            case 1 -> put("done");
            case 2 -> put("last");
            case 3 -> put("purse " + random.nextInt(random.nextInt(20) == 0 ? 7 : 4));
            case 4 -> put("held " + random.nextInt(random.nextInt(20) == 0 ? 7 : 4));
            default -> put("knows " + random.nextInt(4) + " " + random.nextInt(random.nextInt(20) == 0 ? 9 : 8));
        }
    }
}
