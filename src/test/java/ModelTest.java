import java.util.ArrayList;
import java.util.List;
import java.util.Random;

/** Runs by draws, the same each time: the class answers every call as the model does. */
public final class ModelTest {
    private static final int CALLS = 512;

    private final Random random;
    private final PawnedHours real = new PawnedHours();
    private final Model model = new Model();
    private final List<String> told = new ArrayList<>();
    private final int wildness;
    /** Some runs keep to few hours, so that more is known of one another and all that is pawned can be redeemed. */
    private final int lastHour;
    private int calls = 0;
    private boolean wrong = false;

    private ModelTest(long seed) {
        random = new Random(seed);
        wildness = random.nextInt(3) == 0 ? 8 : 60;
        lastHour = random.nextBoolean() ? 11 : 1 + random.nextInt(5);
    }

    public static void main(String[] args) {
        int runs = args.length > 0 ? Integer.parseInt(args[0]) : 400;
        long first = args.length > 1 ? Long.parseLong(args[1]) : 1;
        int failed = 0;
        for (long seed = first; seed < first + runs && failed < 3; seed++) {
            if (!new ModelTest(seed).passes(seed)) {
                failed++;
            }
        }
        System.out.println(failed == 0 ? runs + " runs, class and model agree" : "class and model differ");
        if (failed != 0) {
            System.exit(1);
        }
    }

    private boolean passes(long seed) {
        int people = random.nextInt(7);
        for (int i = 0; i < people; i++) {
            ask("person");
        }
        for (int i = 0; i < people * 5 && random.nextInt(40) != 0; i++) {
            int person = upTo(people - 1);
            int hour = upTo(Math.min(5, lastHour));
            ask("put", person, hour, 0, upTo(4));
            ask("put", person, hour, 1, random.nextInt(1 << people) & ~(1 << person));
        }
        while (calls < CALLS && !wrong) {
            step();
        }
        if (wrong) {
            System.out.println("seed " + seed + ":");
            for (int i = Math.max(0, told.size() - 40); i < told.size(); i++) {
                System.out.println("  " + told.get(i));
            }
        }
        return !wrong;
    }

    private int upTo(int most) {
        return most <= 0 ? 0 : random.nextInt(most + 1);
    }

    /** Mostly least .. most, now and then one beside it, or far off. */
    private int some(int least, int most) {
        int draw = random.nextInt(wildness * 2);
        if (draw == 0) {
            return least - 1;
        }
        if (draw == 1) {
            return most + 1;
        }
        if (draw == 2) {
            return random.nextInt();
        }
        if (draw == 3) {
            return random.nextBoolean() ? least : most;
        }
        return least + random.nextInt(most - least + 1);
    }

    private int somebody() {
        int size = model.now.people.size();
        return random.nextInt(wildness) == 0 || size == 0 ? some(0, 5) : random.nextInt(size);
    }

    private int somePeople() {
        int all = (1 << model.now.people.size()) - 1;
        return random.nextInt(wildness) == 0 ? some(0, 63) : random.nextInt(64) & all;
    }

    private void step() {
        switch (random.nextInt(40)) {
            case 0 -> ask("person");
            case 1, 2 -> ask("put", somebody(), some(0, lastHour), 0, some(-1, 7));
            case 3 -> ask("put", somebody(), some(0, lastHour), 2, some(0, 99));
            case 4, 5 -> putWith();
            case 6 -> ask("give", somebody(), random.nextInt(4) == 0 ? some(99_000, 99_999) : some(0, 200));
            case 7 -> ask("needs", some(0, 7), some(-1, 7));
            case 8 -> ask("terms", some(0, 4), random.nextInt(9) == 0 ? some(0, 999) : some(0, 10));
            case 9 -> row();
            case 10, 11, 12 -> text("law", new Writer(random, false).write());
            case 13, 14, 15, 16, 17 -> text("orders", new Writer(random, true).write());
            case 18 -> ask("force", random.nextInt(4) == 0 ? some(-1, 5) : some(-1, model.now.laws.size() - 1));
            case 19, 20, 21, 22, 23 -> ask("pawn", somebody(), some(0, lastHour));
            case 24, 25 -> redeem();
            case 26, 27, 28 -> pass();
            case 29 -> ask("auction", somebody(), some(0, lastHour));
            case 30 -> undo();
            case 31, 32 -> ask("bid", somebody(), some(0, 3), random.nextInt(2) == 0 ? some(0, 4) : some(0, 999));
            case 33 -> ask("years", some(0, 1_000_000), some(1, 60));
            case 34 -> ask("image", some(0, 1));
            case 35 -> ask("back", some(0, 1));
            case 36 -> ask("terms", 0, random.nextInt(3) == 0 ? some(995, 999) : some(0, 60));
            case 37 -> ask("end", some(0, 40));
            default -> {
            }
        }
        for (int i = random.nextInt(4); i > 0; i--) {
            question();
        }
        ask("status");
    }

    private void putWith() {
        int person = somebody();
        int hour = some(0, lastHour);
        int with = somePeople() & (random.nextInt(wildness) == 0 || person < 0 || person > 5 ? -1 : ~(1 << person));
        ask("put", person, hour, random.nextInt(wildness) == 0 ? some(0, 2) : 1, with);
    }

    private void row() {
        int bytes = random.nextInt(50);
        for (int i = 0; i < bytes; i += 20) {
            int[] five = new int[5];
            for (int k = 0; k < 20; k++) {
                int at = i + k;
                int b = at % 3 == 0 ? random.nextInt(10) : at % 3 == 1 ? somePeople() & 63 : random.nextInt(110);
                five[k / 4] |= (b & 255) << (24 - 8 * (k % 4));
            }
            ask("feed", five);
        }
        ask("end", bytes);
        ask("row", somebody());
        ask("rain");
    }

    private void text(String call, String text) {
        ask("end", 0);
        for (int i = 0; i < text.length(); i += 20) {
            int[] five = new int[5];
            for (int k = 0; k < 20 && i + k < text.length(); k++) {
                five[k / 4] |= (text.charAt(i + k) & 255) << (24 - 8 * (k % 4));
            }
            ask("feed", five);
        }
        ask("end", text.length());
        told.add("# " + text);
        ask(call);
        ask("fault");
        ask("stopped");
    }

    private void redeem() {
        int person = somebody();
        int hour = some(0, lastHour);
        for (int i = 0; i < 12; i++) {
            if (person >= 0 && person < model.now.people.size() && model.now.people.get(person).hours[i].state == 1) {
                hour = i;
            }
        }
        ask("redeem", person, hour);
    }

    private void pass() {
        for (int i = random.nextInt(4); i >= 0; i--) {
            ask("pass");
        }
    }

    private void undo() {
        for (int i = random.nextInt(random.nextInt(5) == 0 ? 20 : 3); i >= 0; i--) {
            ask("undo");
        }
    }

    private void question() {
        switch (random.nextInt(17)) {
            case 0, 1 -> ask("hour", somebody(), some(0, lastHour), some(0, 8));
            case 2, 3 -> ask("of", somebody(), some(0, 4));
            case 4 -> ask("met", somebody(), somebody(), some(0, 8));
            case 5 -> ask("learned", somebody(), some(0, 7));
            case 6 -> ask("deep", some(1, 3));
            case 7 -> ask("lies", some(-1, 20));
            case 8 -> ask("forged", some(-1, 11));
            case 9 -> ask("stray", some(0, lastHour), somePeople());
            case 10, 11 -> ask("raise", somebody(), random.nextInt(4) == 0 ? some(0, 9999) : some(0, 60),
                    random.nextInt(3) == 0 ? 0 : some(0, 255), some(0, 2));
            case 12 -> ask("cheapest", somebody(), some(-1, 6));
            case 13 -> ask("sale", some(0, 8));
            case 14 -> ask("lasting", somebody(), random.nextInt(3) == 0 ? some(0, 9999) : some(0, 30), some(0, 40));
            case 15 -> ask("drawn", somebody(), some(0, 2));
            default -> ask("count", some(0, 16));
        }
    }

    private void ask(String call, int... a) {
        if (wrong || calls >= CALLS) {
            return;
        }
        calls++;
        long got = Calls.ofClass(real, call, a);
        long due = Calls.ofModel(model, call, a);
        told.add(call + java.util.Arrays.toString(a) + " answered " + got + ", due is " + due);
        wrong = got != due;
    }
}
