/** Counts the answers that are not as due, and ends the test by them. */
final class Check {
    private static int asked = 0;
    private static int wrong = 0;

    private Check() {
    }

    static int asked() {
        return asked;
    }

    static int wrong() {
        return wrong;
    }

    static void due(String call, long got, long want) {
        asked++;
        if (got != want) {
            wrong++;
            System.out.println(call + " answered " + got + ", due is " + want);
        }
    }

    /** Calls by name, as "pawn 0 3", each with the answer that is due: "pawn 0 3 = 20". */
    static void run(PawnedHours x, String... calls) {
        for (String call : calls) {
            String[] sides = call.split("=");
            String[] words = sides[0].trim().split(" +");
            int[] arguments = new int[words.length - 1];
            for (int i = 1; i < words.length; i++) {
                arguments[i - 1] = Integer.parseInt(words[i]);
            }
            due(call, Calls.ofClass(x, words[0], arguments), Long.parseLong(sides[1].trim()));
        }
    }

    static PawnedHours withPeople(int people) {
        PawnedHours x = new PawnedHours();
        for (int i = 0; i < people; i++) {
            x.person();
        }
        return x;
    }

    /** Puts a text alone on the tape; characters stand for bytes. */
    static void tape(PawnedHours x, String text) {
        x.end(0);
        for (int i = 0; i < text.length(); i += 20) {
            int[] five = new int[5];
            for (int k = 0; k < 20 && i + k < text.length(); k++) {
                five[k / 4] |= (text.charAt(i + k) & 255) << (24 - 8 * (k % 4));
            }
            x.feed(five[0], five[1], five[2], five[3], five[4]);
        }
        due("end(" + text.length() + ")", x.end(text.length()), text.length());
    }

    static void law(PawnedHours x, String text, int want) {
        tape(x, text);
        due("law() of " + text, x.law(), want);
    }

    static void orders(PawnedHours x, String text, int want) {
        tape(x, text);
        due("orders() of " + text, x.orders(), want);
    }

    static void end() {
        System.out.println(asked + " answers, " + wrong + " not as due");
        if (wrong != 0 || asked == 0) {
            System.exit(1);
        }
    }
}
