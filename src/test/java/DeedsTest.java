/** Promises 18 to 22: to pawn, to redeem, days, auctions, and what is undone. */
public final class DeedsTest {
    public static void main(String[] args) {
        pawn();
        redeem();
        pass();
        auction();
        undo();
        undoExactly();
        undoForgets();
        undoKeepsSixteen();
        Check.end();
    }

    private static void pawn() {
        PawnedHours x = Check.withPeople(2);
        Check.run(x, "put 0 3 2 40 = 1", "pawn 0 3 = 40", "status = 0", "of 0 0 = 40", "of 1 0 = 0", "hour 0 3 3 = 1",
            "hour 0 3 4 = 40", "hour 0 3 5 = 0", "pawn 0 3 = -3", "status = -3", "pawn 0 12 = -1", "pawn 0 -1 = -1",
            "pawn 2 0 = -2", "pawn -1 0 = -2", "pawn 2 12 = -1", "count 1 = 1", "count 6 = 3", "count 7 = 2",
            "count 8 = 1", "hour 1 3 3 = 0");
        // The purse ends at its greatest, the loan is told and kept whole.
        Check.run(x, "put 1 0 2 99 = 1", "give 1 99990 = 0", "pawn 1 0 = 99", "of 1 0 = 99999", "hour 1 0 4 = 99",
            "pawn 1 1 = 1", "of 1 0 = 99999");
        Check.law(x, "lends 0;bars if hour = 5", 0);
        Check.run(x, "force 0 = -1", "pawn 0 5 = -3", "pawn 0 6 = 0", "status = 0", "hour 0 6 4 = 0", "hour 0 6 3 = 1",
            "terms 2 1 = 9", "pass = 1", "auction 0 6 = 0", "status = 0", "pawn 0 6 = -3", "hour 0 6 3 = 2");
    }

    private static void redeem() {
        PawnedHours x = Check.withPeople(1);
        Check.run(x, "put 0 3 2 40 = 1", "redeem 0 3 = -3", "pawn 0 3 = 40", "redeem 0 3 = 40", "status = 0",
            "of 0 0 = 0", "hour 0 3 3 = 0", "hour 0 3 4 = -1", "hour 0 3 5 = -1", "redeem 0 3 = -3",
            "redeem 0 12 = -1", "redeem 0 -1 = -1", "redeem 1 0 = -2", "redeem -1 0 = -2", "redeem 1 12 = -1");
        Check.run(x, "pawn 0 3 = 40", "pass = 1", "give 0 40 = 45", "redeem 0 3 = -3", "of 0 0 = 40", "hour 0 3 3 = 1",
            "give 0 41 = 40", "redeem 0 3 = 41", "of 0 0 = 0");
        // The law of the day on which it is redeemed counts; the loan is that of the day on which it was pawned.
        Check.law(x, "costs loan * 2 + days", 0);
        Check.run(x, "pawn 0 3 = 40", "put 0 3 2 10 = 40", "force 0 = -1", "pass = 2", "pass = 3", "hour 0 3 7 = 82",
            "give 0 100 = 50", "redeem 0 3 = 82", "of 0 0 = 18");
        Check.run(x, "pawn 0 1 = 1", "terms 2 1 = 9", "pass = 4", "auction 0 1 = 1", "redeem 0 1 = -3");
    }

    private static void pass() {
        PawnedHours x = Check.withPeople(2);
        Check.run(x, "give 0 99997 = 0", "pass = 1", "of 0 0 = 99999", "of 1 0 = 5", "terms 1 99 = 5", "pass = 2",
            "of 1 0 = 104", "terms 1 0 = 99", "pass = 3", "of 1 0 = 104", "terms 0 998 = 3", "pass = 999",
            "status = 0", "pass = -3", "status = -3", "count 12 = 999", "count 4 = 1", "person = 2", "of 2 0 = 0");
    }

    private static void auction() {
        PawnedHours x = Check.withPeople(1);
        Check.run(x, "put 0 2 2 30 = 1", "auction 0 2 = -3", "pawn 0 2 = 30", "terms 2 2 = 9", "auction 0 2 = -3",
            "pass = 1", "auction 0 2 = -3", "status = -3", "pass = 2", "auction 0 2 = 30", "status = 0",
            "hour 0 2 3 = 2", "of 0 0 = 40", "auction 0 2 = -3", "count 2 = 1", "count 1 = 0", "auction 0 12 = -1",
            "auction 0 -1 = -1", "auction 1 0 = -2", "auction -1 0 = -2", "auction 1 12 = -1", "undo = 3",
            "hour 0 2 3 = 1", "hour 0 2 4 = 30", "hour 0 2 5 = 2", "pass = 3", "auction 0 2 = 30");
    }

    private static void undo() {
        PawnedHours x = Check.withPeople(2);
        Check.run(x, "undo = -3", "status = -3", "put 1 0 2 9 = 1", "pawn 1 0 = 9", "pass = 1", "redeem 1 0 = 10",
            "pawn 1 0 = 9", "terms 2 1 = 9", "undo = -3", "pass = 2", "auction 1 0 = 9", "pawn 0 5 = 1",
            "redeem 0 5 = 1", "count 4 = 4");
        Check.run(x, "undo = 1", "hour 0 5 3 = 1", "hour 0 5 4 = 1", "hour 0 5 5 = 0", "of 0 0 = 11", "undo = 0",
            "hour 0 5 3 = 0", "hour 0 5 4 = -1", "of 0 0 = 10", "undo = 3", "hour 1 0 3 = 1", "hour 1 0 4 = 9",
            "hour 1 0 5 = 1", "undo = 2", "count 12 = 1", "of 0 0 = 5", "of 1 0 = 13", "hour 1 0 5 = 0", "count 4 = 0",
            "undo = -3", "count 8 = 3");
    }

    /** At the greatest purse what was added can't be told from the purse, and yet it is taken back rightly. */
    private static void undoExactly() {
        PawnedHours x = Check.withPeople(2);
        Check.run(x, "put 0 0 2 99 = 1", "give 0 99950 = 0", "give 1 99998 = 0", "pawn 0 0 = 99", "pass = 1",
            "of 0 0 = 99999", "of 1 0 = 99999", "undo = 2", "of 0 0 = 99999", "of 1 0 = 99998", "undo = 0",
            "of 0 0 = 99950");
        // What is no deed stays as it is when a deed ahead of it is undone.
        Check.run(x, "pawn 0 0 = 99", "bid 0 1 7 = 0", "needs 1 2 = -1", "image 0 = 0", "years 5 3 = 2", "undo = 0",
            "bid 0 1 0 = 7", "needs 1 -1 = 2", "of 0 2 = 0");
    }

    private static void undoForgets() {
        PawnedHours x = Check.withPeople(1);
        Check.run(x, "pass = 1", "person = 1", "undo = -3", "pass = 2", "put 0 0 0 1 = -1", "undo = -3", "pass = 3",
            "give 0 3 = 15", "undo = -3", "pass = 4", "terms 4 0 = 0", "undo = -3", "pass = 5", "feed 0 0 0 0 0 = 20",
            "count 4 = 1", "row 0 = 6", "undo = -3");
        // Those that are refused take nothing away.
        Check.run(x, "pass = 6", "put 0 0 0 8 = -1", "put 9 0 0 0 = -2", "give 0 -1 = -1", "give 9 0 = -2", "row 0 = -6",
            "row 9 = -2", "terms 9 0 = -1", "pawn 9 0 = -2", "back 0 = -2", "law = -6", "orders = -6", "count 4 = 1",
            "undo = 2", "image 1 = 0", "pass = 6", "back 1 = 0", "undo = -3", "count 12 = 5");
        Check.run(x, "pawn 0 0 = 0", "terms 0 4 = -3", "count 4 = 1", "undo = 0");
    }

    private static void undoKeepsSixteen() {
        PawnedHours x = Check.withPeople(1);
        for (int day = 1; day <= 20; day++) {
            Check.due("pass", x.pass(), day);
        }
        Check.run(x, "count 4 = 16");
        for (int i = 0; i < 16; i++) {
            Check.due("undo", x.undo(), 2);
        }
        Check.run(x, "undo = -3", "count 12 = 4", "of 0 0 = 20", "pass = 5", "undo = 2", "undo = -3", "of 0 0 = 20");
    }
}
