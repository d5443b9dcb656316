/** Promises 23 to 28: who met whom, who knows what of whom, lies, forged and stray hours. */
public final class CompanyTest {
    public static void main(String[] args) {
        met();
        knowsOf();
        learned();
        deep();
        lies();
        forged();
        stray();
        Check.end();
    }

    /** All of some people were with one another in an hour. */
    private static void gather(PawnedHours x, int hour, int people) {
        for (int p = 0; p < 6; p++) {
            if ((people >> p & 1) == 1) {
                x.put(p, hour, 1, people & ~(1 << p));
            }
        }
    }

    private static void met() {
        PawnedHours x = Check.withPeople(3);
        gather(x, 0, 3);
        gather(x, 11, 7);
        Check.run(x, "put 0 5 1 2 = 0", "met 0 1 0 = 2049", "met 1 0 0 = 2049", "met 0 2 0 = 2048", "met 1 2 0 = 2048",
            "met 0 0 0 = -1", "met 0 3 0 = -1", "met 3 0 0 = -1", "met -1 0 0 = -1", "met 0 -1 0 = -1",
            "met 0 1 -1 = -1", "met 0 1 9 = -1", "pawn 1 0 = 1", "met 0 1 0 = 2048", "met 1 0 0 = 2048",
            "pawn 0 11 = 1", "met 0 1 0 = 0", "met 1 2 0 = 2048", "redeem 1 0 = 1", "met 0 1 0 = 1");
    }

    private static void knowsOf() {
        PawnedHours x = Check.withPeople(3);
        gather(x, 2, 3);
        gather(x, 4, 3);
        Check.run(x, "put 0 1 0 5 = -1", "put 1 2 0 5 = -1", "met 0 1 6 = 1", "met 1 0 6 = 0", "met 0 0 6 = 1",
            "met 2 2 6 = 0", "met 0 2 6 = 0", "met 2 0 6 = 0", "met 0 1 5 = 0", "met 0 1 7 = 0", "met 3 3 6 = -1");
        // The first hour of learning counts, not any other.
        Check.run(x, "put 0 4 0 5 = -1", "met 1 0 6 = 0", "pawn 0 1 = 1", "met 1 0 6 = 1", "pawn 0 2 = 1",
            "met 0 1 6 = 0", "pawn 0 4 = 1", "met 0 1 6 = 0", "met 1 0 6 = 0", "met 0 0 6 = 0", "met 1 1 6 = 1");
    }

    private static void learned() {
        PawnedHours x = Check.withPeople(1);
        Check.run(x, "put 0 3 0 2 = -1", "put 0 6 0 2 = -1", "put 0 11 0 0 = -1", "learned 0 2 = 3", "learned 0 0 = 11",
            "learned 0 1 = -1", "learned 0 8 = -1", "learned 0 -1 = -1", "learned 1 2 = -1", "learned -1 2 = -1",
            "pawn 0 3 = 1", "learned 0 2 = 6", "needs 2 1 = -1", "learned 0 2 = -1", "put 0 5 0 1 = -1",
            "learned 0 2 = 6", "redeem 0 3 = 1", "learned 0 2 = 6", "put 0 0 0 1 = -1", "learned 0 2 = 3",
            "learned 0 1 = 0");
    }

    private static void deep() {
        PawnedHours one = Check.withPeople(1);
        Check.run(one, "deep 1 = 0", "put 0 0 0 3 = -1", "deep 1 = 8", "deep 2 = 8", "deep 3 = 8", "deep 0 = -1",
            "deep 4 = -1", "deep -1 = -1");
        PawnedHours x = Check.withPeople(3);
        gather(x, 0, 7);
        gather(x, 1, 7);
        Check.run(x, "put 0 0 0 1 = -1", "put 1 0 0 1 = -1", "deep 1 = 0", "put 2 1 0 1 = -1", "deep 1 = 2", "deep 2 = 2",
            "deep 3 = 2");
        // In hour 1, in which 2 learned it, 0 and 1 did not meet: both know of 2, but not of one another's knowing of 2.
        Check.run(x, "put 0 1 1 4 = 6", "put 1 1 1 4 = 5", "deep 1 = 2", "deep 2 = 2", "deep 3 = 0");
        Check.run(x, "put 1 1 1 0 = 4", "deep 1 = 2", "deep 2 = 0", "deep 3 = 0", "pawn 2 1 = 1", "deep 1 = 0");
        // Two who each learned it in an hour in which they met.
        PawnedHours two = Check.withPeople(2);
        gather(two, 3, 3);
        gather(two, 5, 3);
        Check.run(two, "put 0 3 0 0 = -1", "put 1 5 0 0 = -1", "put 0 4 0 6 = -1", "put 1 4 0 6 = -1", "deep 1 = 65",
            "deep 2 = 1", "deep 3 = 1", "pawn 1 3 = 1", "deep 1 = 65", "deep 2 = 0");
    }

    private static void lies() {
        PawnedHours x = Check.withPeople(3);
        Check.run(x, "lies -1 = 0", "lies 0 = -1", "put 0 0 1 6 = 0", "put 2 0 1 2 = 0", "put 1 11 1 5 = 0",
            "lies -1 = 5", "lies 0 = 1", "lies 1 = 2", "lies 2 = 13", "lies 3 = 402", "lies 4 = 404", "lies 5 = -1",
            "lies -2 = -1", "lies 2147483647 = -1", "put 1 0 1 1 = 0", "lies -1 = 4", "lies 0 = 2", "pawn 0 0 = 1",
            "lies -1 = 3", "lies 0 = 13", "pawn 1 0 = 1", "lies -1 = 2", "lies 0 = 402");
    }

    private static void forged() {
        PawnedHours x = Check.withPeople(4);
        // All three of a ring are at odds: two must go, the lowest are 0 and 1.
        Check.run(x, "put 0 0 1 2 = 0", "put 1 0 1 4 = 0", "put 2 0 1 1 = 0", "forged 0 = 3", "forged -1 = 2");
        // All are at odds with 3 alone.
        Check.run(x, "put 3 7 1 7 = 0", "forged 7 = 8", "forged -1 = 3", "forged 1 = 0", "forged 12 = -1",
            "forged -2 = -1", "pawn 3 7 = 1", "forged 7 = 0", "forged -1 = 2", "redeem 3 7 = 1");
        // Two pairs: of each the lower one.
        Check.run(x, "put 1 11 1 8 = 0", "put 2 11 1 1 = 0", "forged 11 = 3", "forged -1 = 5", "lies -1 = 8");
        PawnedHours six = Check.withPeople(6);
        for (int p = 0; p < 6; p++) {
            Check.due("put", six.put(p, 4, 1, 1 << (p + 1) % 6), 0);
        }
        Check.run(six, "lies -1 = 6", "forged 4 = 21", "forged -1 = 3");
    }

    private static void stray() {
        PawnedHours x = Check.withPeople(4);
        Check.run(x, "put 1 2 1 9 = 0", "put 2 2 1 1 = 0", "stray 2 6 = 0", "pawn 0 2 = 1", "stray 2 6 = 1",
            "pawn 3 2 = 1", "stray 2 6 = 1", "stray 2 2 = 8", "stray 2 10 = 0", "stray 2 14 = 1", "stray 2 3 = 8",
            "stray 2 7 = 0", "stray 2 0 = 0", "stray 2 4 = 0", "stray 12 0 = -1", "stray -1 0 = -1", "stray 2 16 = -1",
            "stray 2 64 = -1", "stray 2 -1 = -1", "stray 3 0 = 0");
        // Nobody holds it: it can be anybody's who is not among those told.
        Check.run(x, "pawn 1 2 = 1", "pawn 2 2 = 1", "stray 2 0 = 15", "stray 2 5 = 10", "stray 2 15 = 0",
            "terms 2 1 = 9", "pass = 1", "auction 0 2 = 1", "stray 2 14 = 1");
    }
}
