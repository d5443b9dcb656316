/** The boundaries of promises 18 to 22 and of the deeds in Terms III, each by the words that name it. */
public final class DeedsEdgesTest {
    public static void main(String[] args) {
        pawn();
        redeem();
        pass();
        auction();
        undo();
        undoForgets();
        Check.end();
    }

    private static void pawn() {
        Edge.of("To PAWN an HOUR that is HELD, not BARRED: the PURSE has what it LENDS more (99,999 at most).", () -> {
            PawnedHours x = Check.withPeople(1);
            Check.run(x, "put 0 0 2 99 = 1", "give 0 99900 = 0", "pawn 0 0 = 99", "of 0 0 = 99999", "put 0 1 2 99 = 1",
                "pawn 0 1 = 99", "of 0 0 = 99999", "hour 0 1 4 = 99", "give 0 99901 = 99999", "put 0 2 2 99 = 1",
                "pawn 0 2 = 99", "of 0 0 = 99999", "pawn 0 2 = -3", "terms 2 1 = 9", "pass = 1", "auction 0 2 = 99",
                "pawn 0 2 = -3");
            Check.law(x, "bars if hour=3;lends 0", 0);
            Check.run(x, "force 0 = -1", "pawn 0 3 = -3", "hour 0 3 3 = 0", "pawn 0 4 = 0", "status = 0", "hour 0 4 3 = 1",
                "force -1 = 0", "pawn 0 3 = 1");
        });
        Edge.of("`int pawn(int person, int hour)`: To PAWN: what is lent. -1; -2; -3.", () -> {
            PawnedHours x = Check.withPeople(1);
            Check.run(x, "pawn 0 12 = -1", "status = -1", "pawn 0 -1 = -1", "pawn 0 2147483647 = -1", "pawn 0 -2147483648 = -1",
                "pawn 1 0 = -2", "status = -2", "pawn -1 0 = -2", "pawn 2147483647 11 = -2", "pawn -2147483648 11 = -2",
                "pawn 0 11 = 1", "status = 0", "pawn 0 11 = -3", "status = -3", "count 6 = 4", "count 7 = 4", "count 8 = 1",
                "count 1 = 1", "count 4 = 1");
        });
    }

    private static void redeem() {
        Edge.of("To REDEEM one that is PAWNED: the PURSE has what it COSTS less, if it has so much.", () -> {
            PawnedHours x = Check.withPeople(2);
            Check.run(x, "put 0 0 2 50 = 1", "redeem 0 0 = -3", "pawn 0 0 = 50", "give 1 99999 = 0", "give 0 49 = 50",
                "redeem 0 0 = -3", "of 0 0 = 49", "hour 0 0 3 = 1", "hour 0 0 4 = 50", "count 4 = 0", "give 0 50 = 49",
                "redeem 0 0 = 50", "of 0 0 = 0", "of 1 0 = 99999", "hour 0 0 3 = 0", "redeem 0 0 = -3", "terms 2 1 = 9",
                "pawn 0 0 = 50", "pass = 1", "auction 0 0 = 50", "give 0 99999 = 55", "redeem 0 0 = -3", "hour 0 0 3 = 2");
            // What costs nothing can be had back with an empty purse; the dearest costs 9,999.
            Check.law(x, "costs 0", 0);
            Check.law(x, "costs 1000*1000", 1);
            Check.run(x, "pawn 0 1 = 1", "give 0 0 = 99999", "force 0 = -1", "redeem 0 1 = 0", "status = 0", "pawn 0 1 = 1",
                "force 1 = 0", "give 0 9998 = 1", "redeem 0 1 = -3", "give 0 9999 = 9998", "redeem 0 1 = 9999", "of 0 0 = 0");
            // What is barred now can be redeemed all the same.
            Check.law(x, "bars", 2);
            Check.run(x, "pawn 0 1 = 1", "force 2 = 1", "redeem 0 1 = 1", "pawn 0 1 = -3");
        });
        Edge.of("`int redeem(int person, int hour)`: To REDEEM: what is paid. -1; -2; -3.", () -> {
            PawnedHours x = Check.withPeople(1);
            Check.run(x, "pawn 0 11 = 1", "redeem 0 12 = -1", "status = -1", "redeem 0 -1 = -1", "redeem 0 2147483647 = -1",
                "redeem 0 -2147483648 = -1", "redeem 1 11 = -2", "status = -2", "redeem -1 11 = -2", "redeem 2147483647 11 = -2",
                "redeem 0 10 = -3", "status = -3", "redeem 0 11 = 1", "status = 0", "count 6 = 4", "count 7 = 3", "count 8 = 1");
        });
    }

    private static void pass() {
        Edge.of("A DAY: the next one (behind 999 it can't be), each PURSE has INCOME more (99,999 at most).", () -> {
            PawnedHours x = Check.withPeople(6);
            Check.run(x, "give 0 99993 = 0", "give 1 99994 = 0", "give 2 99995 = 0", "give 3 99999 = 0", "pass = 1",
                "of 0 0 = 99998", "of 1 0 = 99999", "of 2 0 = 99999", "of 3 0 = 99999", "of 4 0 = 5", "of 5 0 = 5",
                "terms 1 0 = 5", "pass = 2", "of 0 0 = 99998", "of 5 0 = 5", "terms 1 99 = 0", "pass = 3", "of 5 0 = 104",
                "of 0 0 = 99999");
        });
        Edge.of("A DAY goes by: the DAY. -3 behind 999.", () -> {
            PawnedHours x = Check.withPeople(1);
            Check.run(x, "terms 0 998 = 0", "pass = 999", "status = 0", "of 0 0 = 5", "count 4 = 1", "pass = -3", "status = -3",
                "pass = -3", "count 12 = 999", "of 0 0 = 5", "count 4 = 1", "count 8 = 2", "undo = 2", "count 12 = 998",
                "pass = 999");
            PawnedHours nobody = new PawnedHours();
            Check.run(nobody, "pass = 1", "undo = 2", "count 12 = 0");
        });
    }

    private static void auction() {
        Edge.of("An AUCTION: an HOUR that was PAWNED PATIENCE DAYS ago or longer is LOST.", () -> {
            PawnedHours x = Check.withPeople(1);
            Check.run(x, "pawn 0 0 = 1", "pawn 0 1 = 1", "terms 0 8 = 0", "auction 0 0 = -3", "hour 0 0 3 = 1", "terms 0 9 = 8",
                "auction 0 0 = 1", "hour 0 0 3 = 2", "terms 0 10 = 9", "auction 0 1 = 1", "hour 0 1 3 = 2", "of 0 3 = 2");
            Check.run(x, "terms 2 1 = 9", "pawn 0 2 = 1", "auction 0 2 = -3", "pass = 11", "auction 0 2 = 1");
            Check.run(x, "terms 2 99 = 1", "pawn 0 3 = 1", "terms 0 109 = 11", "auction 0 3 = -3", "pass = 110", "auction 0 3 = 1");
        });
        Edge.of("An AUCTION: the LOAN of what is LOST. -1; -2; -3.", () -> {
            PawnedHours x = Check.withPeople(1);
            Check.run(x, "put 0 11 2 77 = 1", "terms 2 1 = 9", "auction 0 11 = -3", "status = -3", "pawn 0 11 = 77", "put 0 11 2 3 = 77",
                "pass = 1", "auction 0 12 = -1", "status = -1", "auction 0 -1 = -1", "auction 0 2147483647 = -1", "auction 1 11 = -2",
                "status = -2", "auction -1 11 = -2", "auction 2147483647 11 = -2", "auction 0 11 = 77", "status = 0",
                "auction 0 11 = -3", "status = -3", "auction 0 10 = -3", "of 0 0 = 82", "count 6 = 3", "count 7 = 3", "count 8 = 3");
        });
    }

    private static void undo() {
        Edge.of("The latest pawn(), redeem(), pass(), auction() (by ORDERS, too; 16 are kept) is undone: 0, 1, 2, 3.", () -> {
            PawnedHours x = Check.withPeople(2);
            Check.run(x, "terms 2 1 = 9", "put 1 11 2 60 = 1", "pawn 1 11 = 60", "pass = 1", "redeem 1 11 = 61", "pawn 1 11 = 60",
                "pass = 2", "auction 1 11 = 60", "count 4 = 6");
            Check.run(x, "undo = 3", "status = 0", "hour 1 11 3 = 1", "hour 1 11 4 = 60", "hour 1 11 5 = 1", "undo = 2",
                "count 12 = 1", "of 0 0 = 5", "of 1 0 = 64", "undo = 0", "hour 1 11 3 = 0", "of 1 0 = 4", "undo = 1",
                "hour 1 11 3 = 1", "hour 1 11 4 = 60", "hour 1 11 5 = 1", "of 1 0 = 65", "undo = 2", "of 0 0 = 0", "of 1 0 = 60",
                "undo = 0", "of 1 0 = 0", "hour 1 11 3 = 0", "count 4 = 0", "undo = -3", "status = -3");
            // A purse that was at its greatest is as it was.
            Check.run(x, "give 0 99998 = 0", "pawn 0 0 = 1", "pawn 0 1 = 1", "pass = 1", "undo = 2", "undo = 0", "of 0 0 = 99999",
                "undo = 0", "of 0 0 = 99998");
            // Orders count one by one.
            Check.orders(x, "pawn 0 of 1;pass times 2;redeem 0 of 1", 4);
            Check.run(x, "count 4 = 4", "undo = 1", "undo = 2", "undo = 2", "undo = 0", "undo = -3", "count 12 = 0",
                "of 1 0 = 0", "of 0 0 = 99998");
            // Of seventeen the first one stays, however often the room was gone round.
            for (int round = 0; round < 3; round++) {
                PawnedHours y = Check.withPeople(1);
                Check.orders(y, "pass times 20;".repeat(round) + "pass", 20 * round + 1);
                for (int day = 0; day < 16; day++) {
                    Check.due("pass", y.pass(), 20 * round + 2 + day);
                }
                Check.run(y, "count 4 = 16");
                for (int day = 0; day < 16; day++) {
                    Check.due("undo", y.undo(), 2);
                }
                Check.run(y, "count 4 = 0", "undo = -3");
                Check.due("the day behind all undone", y.count(12), 20 * round + 1);
                Check.due("the purse behind all undone", y.of(0, 0), 5 * (20 * round + 1));
            }
            PawnedHours z = Check.withPeople(1);
            Check.orders(z, "pass times 15", 15);
            Check.run(z, "count 4 = 15", "pass = 16", "count 4 = 16", "pass = 17", "count 4 = 16", "undo = 2", "count 4 = 15",
                "pass = 17", "count 4 = 16");
        });
    }

    private static void undoForgets() {
        Edge.of("-3 there is none (nothing that was ahead of a person(), put(), give(), row(), terms() that was not REFUSED can be undone).",
            () -> {
                Check.run(new PawnedHours(), "undo = -3", "status = -3", "count 4 = 0");
                String[] forgetting = {"person = 1", "put 0 0 0 1 = -1", "put 0 0 1 0 = 0", "put 0 0 2 1 = 1", "give 0 5 = 5",
                    "row 0 = 6", "terms 0 1 = 1", "terms 1 5 = 5", "terms 2 9 = 9", "terms 3 3 = 3", "terms 4 0 = 0"};
                for (String call : forgetting) {
                    PawnedHours x = Check.withPeople(1);
                    Check.run(x, "feed 0 0 0 0 0 = 20", "pass = 1", "count 4 = 1", call, "count 4 = 0", "undo = -3", "count 12 = 1",
                        "pass = 2", "undo = 2", "undo = -3", "count 12 = 1");
                }
                String[] refused = {"person = -5", "put 0 12 0 1 = -1", "put 6 0 0 1 = -2", "give 0 -1 = -1", "give 6 0 = -2",
                    "row 0 = -6", "row 6 = -2", "terms 5 0 = -1", "terms 0 0 = -3", "pawn 0 12 = -1", "redeem 0 0 = -3",
                    "auction 0 0 = -3", "law = -6", "orders = -6", "force 0 = -2", "bid 0 4 0 = -1", "years 0 0 = -1",
                    "image 2 = -1", "back 0 = -2", "needs 0 0 = -1"};
                for (String call : refused) {
                    PawnedHours x = Check.withPeople(6);
                    Check.run(x, "pass = 1", "pawn 5 5 = 1", call, "count 4 = 2", "undo = 0", "undo = 2", "count 12 = 0");
                }
                // Nor do those take anything away that are no such calls at all.
                String[] others = {"needs 0 1 = -1", "bid 0 0 1 = 0", "image 0 = 0", "years 0 1 = 1", "force -1 = -1",
                    "feed 0 0 0 0 0 = 20", "end 0 = 0", "raise 0 1 0 0 = 1", "cheapest 5 -1 = 1", "sale 0 = 0"};
                for (String call : others) {
                    PawnedHours x = Check.withPeople(6);
                    Check.run(x, "pass = 1", "pawn 5 5 = 1", call, "count 4 = 2", "undo = 0", "undo = 2", "count 12 = 0");
                }
                PawnedHours x = Check.withPeople(1);
                Check.run(x, "pass = 1");
                Check.law(x, "bars", 0);
                Check.run(x, "count 4 = 1", "undo = 2");
            });
    }
}
