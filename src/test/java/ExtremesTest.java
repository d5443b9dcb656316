import java.util.Arrays;

/**
 * Every call with every row of numbers at, beside and far beyond the document's bounds, on streets of several kinds:
 * the class answers as the model does, and throws nothing.
 */
public final class ExtremesTest {
    private static final int LOWEST = Integer.MIN_VALUE;
    private static final int HIGHEST = Integer.MAX_VALUE;
    private static final int[] ALL = {LOWEST, LOWEST + 1, -1_000_000, -400, -64, -12, -6, -3, -2, -1, 0, 1, 2, 3, 4, 5, 6, 7, 8, 9, 10,
        11, 12, 13, 15, 16, 17, 20, 31, 32, 33, 35, 36, 39, 40, 41, 59, 60, 61, 62, 63, 64, 65, 98, 99, 100, 127, 128, 179, 180, 255,
        256, 380, 381, 399, 400, 401, 431, 432, 998, 999, 1000, 1001, 9_998, 9_999, 10_000, 99_998, 99_999, 100_000, 999_999,
        1_000_000, 1_000_001, 1_000_003, 1 << 30, HIGHEST - 1, HIGHEST};
    private static final int[] SOME = {LOWEST, -2, -1, 0, 1, 2, 3, 5, 6, 8, 9, 11, 12, 31, 32, 40, 41, 62, 63, 64, 99, 100, 999, 1000,
        9_999, 10_000, HIGHEST};
    private static final int[] FEW = {LOWEST, -1, 0, 1, 2, 3, 5, 6, 11, 12, 32, 63, 64, 99, 255, 256, 9_999, 10_000, HIGHEST};

    private static final String[] ONE = {"end", "row", "force", "deep", "lies", "forged", "sale", "image", "back", "count"};
    private static final String[] TWO = {"give", "of", "needs", "terms", "pawn", "redeem", "auction", "learned", "stray", "cheapest",
        "years", "drawn"};
    private static final String[] THREE = {"hour", "met", "bid", "lasting"};

    private PawnedHours real;
    private Model model;
    private long calls = 0;
    private int wrong = 0;

    public static void main(String[] args) {
        new ExtremesTest().run();
    }

    private void run() {
        for (int kind = 0; kind < 4; kind++) {
            for (String call : ONE) {
                build(kind);
                for (int a : ALL) {
                    ask(call, a);
                }
            }
            for (String call : TWO) {
                build(kind);
                for (int a : ALL) {
                    for (int b : ALL) {
                        ask(call, a, b);
                    }
                }
            }
            for (String call : THREE) {
                build(kind);
                for (int a : SOME) {
                    for (int b : SOME) {
                        for (int c : SOME) {
                            ask(call, a, b, c);
                        }
                    }
                }
            }
            four(kind);
        }
        System.out.println(calls + " calls, " + wrong + " not as the model answers");
        if (wrong != 0 || calls == 0) {
            System.exit(1);
        }
    }

    private void four(int kind) {
        for (String call : new String[] {"put", "raise"}) {
            build(kind);
            for (int a : FEW) {
                for (int b : FEW) {
                    for (int c : FEW) {
                        for (int d : FEW) {
                            ask(call, a, b, c, d);
                        }
                    }
                }
            }
        }
        build(kind);
        ask("end", 0);
        for (int a : SOME) {
            ask("feed", a, ~a, a * 31, a >>> 3, -a);
        }
        ask("row", 0);
        ask("rain");
    }

    /** Nobody; one alone; some with laws and deeds; a full street with full rows, laws, bids, and images. */
    private void build(int kind) {
        real = new PawnedHours();
        model = new Model();
        int people = new int[] {0, 1, 4, 6}[kind];
        for (int p = 0; p < people; p++) {
            ask("person");
        }
        for (int p = 0; p < people && kind > 1; p++) {
            for (int hour = 0; hour < 12; hour++) {
                ask("put", p, hour, 0, (hour + (hour & p)) % 8);
                ask("put", p, hour, 1, (1 << people) - 1 & ~(1 << p) & ~(1 << (hour * p) % 6));
                ask("put", p, hour, 2, hour * p % 100);
            }
            for (int lot = 0; lot < 4; lot++) {
                ask("bid", p, lot, (p * 7 + lot * 5) % 11);
            }
        }
        ask("feed", 0x01000203, 0x00040500, 0x06070008, 0x080009FF, -1);
        if (kind > 1) {
            ask("needs", 3, 2);
            ask("years", 77, 30);
            ask("image", kind - 2);
            laws(kind == 2 ? 2 : 6);
            ask("force", 1);
            for (int i = 0; i < 20; i++) {
                ask("pawn", i % people, i * 5 % 12);
                ask(i % 3 == 0 ? "pass" : "status");
            }
            ask("terms", 2, 1);
            ask("auction", 0, 0);
            ask("auction", 1, 5);
        }
    }

    private void laws(int many) {
        for (int i = 0; i < many; i++) {
            String law = "lends worth+" + i + ";bars if hour=" + i;
            ask("end", 0);
            for (int at = 0; at < law.length(); at += 20) {
                int[] five = new int[5];
                for (int k = 0; k < 20 && at + k < law.length(); k++) {
                    five[k / 4] |= law.charAt(at + k) << (24 - 8 * (k % 4));
                }
                ask("feed", five);
            }
            ask("end", law.length());
            ask("law");
        }
    }

    private void ask(String call, int... a) {
        calls++;
        long got;
        try {
            got = Calls.ofClass(real, call, a);
        } catch (RuntimeException e) {
            wrong++;
            System.out.println(call + Arrays.toString(a) + " threw " + e);
            return;
        }
        long due = Calls.ofModel(model, call, a);
        if (got != due) {
            wrong++;
            if (wrong < 20) {
                System.out.println(call + Arrays.toString(a) + " answered " + got + ", due is " + due);
            }
        }
    }
}
