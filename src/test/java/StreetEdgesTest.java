/** The boundaries of Terms I and of promises 1 to 8, each by the words that name it. */
public final class StreetEdgesTest {
    public static void main(String[] args) {
        people();
        hours();
        firsts();
        limitsOfTerms();
        reasons();
        firstReasonInOrder();
        put();
        hour();
        give();
        of();
        needs();
        terms();
        Check.end();
    }

    private static void people() {
        Edge.of("A street without people.", () -> {
            PawnedHours x = new PawnedHours();
            Check.run(x, "count 0 = 0", "of 0 0 = -1", "hour 0 0 2 = -1", "pawn 0 0 = -2", "give 0 0 = -2", "bid 0 0 0 = -2",
                "lasting 0 0 0 = -1", "cheapest 0 -1 = -1", "raise 0 0 0 0 = -1", "learned 0 0 = -1", "met 0 0 1 = -1",
                "drawn 0 0 = -1", "lies -1 = 0", "forged -1 = 0", "sale 0 = 0", "count 1 = 0", "count 2 = 0");
        });
        Edge.of("PEOPLE 0 .. 5 (6 at most)", () -> {
            PawnedHours x = new PawnedHours();
            Check.run(x, "person = 0", "person = 1", "person = 2", "person = 3", "person = 4", "person = 5", "give 5 1 = 0",
                "give 6 1 = -2", "give -1 1 = -2", "count 0 = 6");
        });
        Edge.of("`int person()`: A PERSON: the number. -5.", () -> {
            PawnedHours x = Check.withPeople(5);
            Check.run(x, "person = 5", "status = 0", "person = -5", "status = -5", "person = -5", "count 0 = 6", "count 9 = 2");
        });
    }

    private static void hours() {
        Edge.of("HOURS 0 .. 11", () -> {
            PawnedHours x = Check.withPeople(1);
            Check.run(x, "put 0 0 2 7 = 1", "put 0 11 2 8 = 1", "put 0 12 2 9 = -1", "put 0 -1 2 9 = -1", "hour 0 0 2 = 7",
                "hour 0 11 2 = 8", "hour 0 12 2 = -1", "hour 0 -1 2 = -1", "pawn 0 12 = -1", "pawn 0 -1 = -1", "pawn 0 11 = 8",
                "pawn 0 0 = 7", "of 0 2 = 2", "of 0 1 = 10");
        });
        Edge.of("what was LEARNED in it, a FACT 0 .. 7 or NONE (at first)", () -> {
            PawnedHours x = Check.withPeople(1);
            Check.run(x, "hour 0 0 0 = -1", "put 0 0 0 0 = -1", "put 0 0 0 7 = 0", "status = 0", "put 0 0 0 8 = -1", "status = -1",
                "put 0 0 0 -1 = 7", "status = 0", "put 0 0 0 -2 = -1", "status = -1", "hour 0 0 0 = -1", "of 0 4 = 0");
        });
        Edge.of("WITH whom one was, as bits of others (none at first)", () -> {
            PawnedHours x = Check.withPeople(6);
            Check.run(x, "hour 0 0 1 = 0", "put 0 0 1 62 = 0", "put 0 0 1 0 = 62", "put 5 0 1 31 = 0", "put 5 0 1 32 = -1",
                "hour 5 0 1 = 31", "put 2 11 1 59 = 0", "put 2 11 1 63 = -1", "put 2 11 1 64 = -1", "hour 2 11 1 = 59");
        });
        Edge.of("its WORTH 0 .. 99 (1 at first)", () -> {
            PawnedHours x = Check.withPeople(1);
            Check.run(x, "hour 0 5 2 = 1", "put 0 5 2 0 = 1", "put 0 5 2 99 = 0", "put 0 5 2 100 = -1", "put 0 5 2 -1 = -1",
                "hour 0 5 2 = 99");
        });
        Edge.of("HELD (0, at first), PAWNED (1), LOST (2)", () -> {
            PawnedHours x = Check.withPeople(1);
            Check.run(x, "hour 0 3 3 = 0", "terms 2 1 = 9", "pawn 0 3 = 1", "hour 0 3 3 = 1", "pass = 1", "auction 0 3 = 1",
                "hour 0 3 3 = 2");
        });
        Edge.of("of PAWNED ones the LOAN and the DAY", () -> {
            PawnedHours x = Check.withPeople(1);
            Check.run(x, "terms 0 40 = 0", "put 0 3 2 33 = 1", "pawn 0 3 = 33", "hour 0 3 4 = 33", "hour 0 3 5 = 0",
                "terms 0 999 = 40", "hour 0 3 5 = 959", "put 0 3 2 4 = 33", "hour 0 3 4 = 33");
        });
    }

    private static void firsts() {
        Edge.of("a PURSE 0 .. 99,999 (0 at first)", () -> {
            PawnedHours x = Check.withPeople(1);
            Check.run(x, "of 0 0 = 0", "give 0 99999 = 0", "give 0 100000 = -1", "give 0 -1 = -1", "give 0 0 = 99999",
                "status = 0", "of 0 0 = 0");
        });
        Edge.of("FACTS NEED another FACT or NONE (at first)", () -> {
            PawnedHours x = new PawnedHours();
            for (int fact = 0; fact < 8; fact++) {
                Check.due("needs(" + fact + ", -1)", x.needs(fact, -1), -1);
                Check.due("status()", x.status(), 0);
            }
            Check.run(x, "needs 0 7 = -1", "needs 7 0 = -1", "needs 0 0 = -1", "status = -1", "needs 0 -1 = 7", "needs 7 -1 = 0");
        });
        Edge.of("LOTS 0 .. 3: BIDS of PEOPLE 0 .. 999 (0 at first)", () -> {
            PawnedHours x = Check.withPeople(6);
            for (int person = 0; person < 6; person++) {
                Check.due("bid at first", x.bid(person, 0, 0), 0);
                Check.due("bid at first", x.bid(person, 3, 0), 0);
            }
            Check.run(x, "bid 5 3 999 = 0", "bid 5 3 1000 = -1", "bid 5 3 -1 = -1", "bid 5 4 1 = -1", "bid 5 -1 1 = -1",
                "bid 5 3 0 = 999");
        });
    }

    private static void limitsOfTerms() {
        Edge.of("0 DAY 0 .. 999 (0 at first)", () -> {
            PawnedHours x = new PawnedHours();
            Check.run(x, "count 12 = 0", "terms 0 -1 = -1", "terms 0 1000 = -1", "count 6 = 2", "terms 0 999 = 0",
                "terms 0 0 = 999");
        });
        Edge.of("1 INCOME 0 .. 99 (5)", () -> {
            PawnedHours x = new PawnedHours();
            Check.run(x, "count 13 = 5", "terms 1 -1 = -1", "terms 1 100 = -1", "count 6 = 2", "terms 1 99 = 5", "terms 1 0 = 99",
                "count 13 = 0");
        });
        Edge.of("2 PATIENCE 1 .. 99 (9)", () -> {
            PawnedHours x = new PawnedHours();
            Check.run(x, "count 14 = 9", "terms 2 0 = -1", "terms 2 100 = -1", "count 6 = 2", "terms 2 99 = 9", "terms 2 1 = 99",
                "count 14 = 1");
        });
        Edge.of("3 ODDS 0 .. 10 (3)", () -> {
            PawnedHours x = new PawnedHours();
            Check.run(x, "count 15 = 3", "terms 3 -1 = -1", "terms 3 11 = -1", "count 6 = 2", "terms 3 10 = 3", "terms 3 0 = 10",
                "count 15 = 0");
        });
        Edge.of("4 MOOD 0 .. 9 (0)", () -> {
            PawnedHours x = new PawnedHours();
            Check.run(x, "count 16 = 0", "terms 4 -1 = -1", "terms 4 10 = -1", "count 6 = 2", "terms 4 9 = 0", "terms 4 0 = 9",
                "count 16 = 0");
        });
    }

    private static void reasons() {
        Edge.of("REFUSED by: -1 a number that can't be; -2 there is no such PERSON, LAW, IMAGE; -3 it can't be by what stands; -5 no room; -6 a TEXT, a ROW that can't be.",
            () -> {
                PawnedHours x = Check.withPeople(6);
                Check.run(x, "terms 2 0 = -1", "count 6 = 1", "give 6 0 = -2", "force 0 = -2", "back 0 = -2", "count 7 = 3", "undo = -3",
                    "redeem 0 0 = -3", "count 8 = 2", "person = -5", "count 9 = 1", "law = -6", "orders = -6", "row 0 = -6",
                    "count 10 = 3", "count 6 = 1", "count 0 = 6");
                // Whatever is refused leaves all as it was.
                Check.run(x, "give 0 100000 = -1", "of 0 0 = 0", "put 0 0 2 100 = -1", "hour 0 0 2 = 1", "needs 0 8 = -1", "status = -1",
                    "needs 0 -1 = -1", "status = 0", "bid 0 0 1000 = -1", "bid 0 0 0 = 0", "terms 1 100 = -1", "count 13 = 5");
            });
        Edge.of("`NONE = -1`: There is none.", () -> Check.due("NONE", PawnedHours.NONE, -1));
    }

    /** Each call is wrong in two ways or more at once. */
    private static void firstReasonInOrder() {
        Edge.of("The first of these in that order.", () -> {
            PawnedHours x = Check.withPeople(2);
            Check.run(x, "put 2 12 2 1 = -1", "put 2 0 2 100 = -1", "put 2 0 0 8 = -1", "put 2 0 1 4 = -1", "put 2 0 3 0 = -1",
                "put 2 0 1 3 = -2", "give 2 -1 = -1", "give 2 100000 = -1", "bid 2 4 0 = -1", "bid 2 0 1000 = -1",
                "pawn 2 12 = -1", "redeem 2 12 = -1", "auction 2 12 = -1", "pawn 2 0 = -2", "redeem 2 0 = -2",
                "auction 2 0 = -2", "redeem 0 0 = -3", "redeem 0 12 = -1", "auction 0 0 = -3", "auction 0 -1 = -1",
                "row 2 = -2", "row 1 = -6", "back 2 = -1", "back 1 = -2", "image 2 = -1");
            Check.run(x, "terms 0 7 = 0", "pawn 0 0 = 1", "terms 0 -1 = -1", "terms 0 1000 = -1", "terms 0 6 = -3");
            PawnedHours nobody = new PawnedHours();
            Check.run(nobody, "years -1 1 = -1", "years 1000001 1 = -1", "years 0 0 = -1", "years 0 61 = -1", "years 0 1 = -3");
            PawnedHours full = new PawnedHours();
            for (int law = 0; law < 6; law++) {
                Check.law(full, "bars", law);
            }
            Check.law(full, "nothing that can be read", -5);
        });
    }

    private static void put() {
        Edge.of("What was LEARNED (what 0; NONE: nothing), WITH whom (1), WORTH (2) of an HOUR: what it was.", () -> {
            PawnedHours x = Check.withPeople(2);
            Check.run(x, "put 0 4 0 3 = -1", "status = 0", "put 0 4 0 -1 = 3", "put 0 4 0 6 = -1", "status = 0", "put 0 4 1 2 = 0",
                "put 0 4 1 0 = 2", "put 0 4 2 50 = 1", "put 0 4 2 51 = 50", "put 0 4 3 0 = -1", "status = -1",
                "put 0 4 -1 0 = -1", "status = -1", "hour 0 4 0 = 6", "hour 0 4 1 = 0", "hour 0 4 2 = 51", "hour 0 3 2 = 1",
                "hour 0 5 2 = 1", "hour 1 4 2 = 1");
        });
        Edge.of("-1 (HOUR; WITH oneself, those not there, too); -2.", () -> {
            PawnedHours x = Check.withPeople(3);
            Check.run(x, "put 0 12 0 1 = -1", "status = -1", "put 0 -1 0 1 = -1", "status = -1", "put 0 0 1 1 = -1", "status = -1",
                "put 1 0 1 2 = -1", "put 1 0 1 3 = -1", "put 2 0 1 4 = -1", "put 2 0 1 3 = 0", "put 0 0 1 8 = -1",
                "put 0 0 1 14 = -1", "put 0 0 1 32 = -1", "put 0 0 1 -2 = -1", "put 0 0 1 -2147483648 = -1",
                "hour 0 0 1 = 0", "put 3 0 1 0 = -2", "status = -2", "put -1 0 0 0 = -2", "put 6 0 0 0 = -2", "count 7 = 3");
            // One who comes can be told of from then on.
            Check.run(x, "person = 3", "put 0 0 1 8 = 0", "put 3 0 1 7 = 0", "hour 0 0 1 = 8");
        });
    }

    private static void hour() {
        Edge.of("Of an HOUR LEARNED (what 0), WITH (1), WORTH (2), HELD .. LOST (3)", () -> {
            PawnedHours x = Check.withPeople(6);
            Check.run(x, "hour 5 11 0 = -1", "hour 5 11 1 = 0", "hour 5 11 2 = 1", "hour 5 11 3 = 0", "put 5 11 0 7 = -1", "put 5 11 1 31 = 0",
                "put 5 11 2 99 = 1", "hour 5 11 0 = 7", "hour 5 11 1 = 31", "hour 5 11 2 = 99", "terms 2 1 = 9", "pawn 5 11 = 99",
                "hour 5 11 3 = 1", "pass = 1", "auction 5 11 = 99", "hour 5 11 3 = 2", "hour 5 11 0 = 7", "hour 5 11 1 = 31",
                "hour 5 11 2 = 99", "hour 5 10 2 = 1", "hour 4 11 3 = 0");
        });
        Edge.of("LOAN (4), DAYS since (5; NONE both: not PAWNED)", () -> {
            PawnedHours x = Check.withPeople(1);
            Check.law(x, "lends 0", 0);
            Check.run(x, "hour 0 2 4 = -1", "hour 0 2 5 = -1", "force 0 = -1", "pawn 0 2 = 0", "hour 0 2 4 = 0", "hour 0 2 5 = 0",
                "pass = 1", "hour 0 2 4 = 0", "hour 0 2 5 = 1", "give 0 1 = 5", "redeem 0 2 = 1", "hour 0 2 4 = -1",
                "hour 0 2 5 = -1", "terms 2 1 = 9", "pawn 0 2 = 0", "pass = 2", "auction 0 2 = 0", "hour 0 2 4 = -1",
                "hour 0 2 5 = -1");
        });
        Edge.of("what it LENDS (6), COSTS (7; NONE: not PAWNED)", () -> {
            PawnedHours x = Check.withPeople(1);
            Check.run(x, "put 0 2 2 99 = 1", "hour 0 2 6 = 99", "hour 0 2 7 = -1", "terms 2 1 = 9", "pawn 0 2 = 99",
                "hour 0 2 6 = 99", "hour 0 2 7 = 99", "pass = 1", "hour 0 2 7 = 100", "auction 0 2 = 99", "hour 0 2 7 = -1",
                "hour 0 2 6 = 99");
        });
        Edge.of("whether BARRED (8: 1, 0). NONE.", () -> {
            PawnedHours x = Check.withPeople(1);
            Check.law(x, "bars if hour = 2", 0);
            Check.run(x, "hour 0 2 8 = 0", "pawn 0 2 = 1", "force 0 = -1", "hour 0 2 8 = 1", "hour 0 1 8 = 0", "hour 0 3 8 = 0",
                "hour 0 2 9 = -1", "hour 0 2 -1 = -1", "hour 0 12 8 = -1", "hour 0 -1 8 = -1", "hour 1 2 8 = -1",
                "hour -1 2 8 = -1", "hour 2147483647 2 8 = -1", "hour 0 2147483647 8 = -1", "hour 0 2 2147483647 = -1",
                "status = 0", "count 6 = 0");
        });
    }

    private static void give() {
        Edge.of("`int give(int person, int value)`: The PURSE: what it was. -1; -2.", () -> {
            PawnedHours x = Check.withPeople(2);
            Check.run(x, "give 1 99999 = 0", "give 1 100000 = -1", "status = -1", "of 1 0 = 99999", "give 1 -1 = -1",
                "give 1 2147483647 = -1", "give 1 -2147483648 = -1", "give 2 0 = -2", "status = -2", "give -1 0 = -2",
                "give 1 0 = 99999", "status = 0", "of 0 0 = 0", "count 6 = 4", "count 7 = 2");
        });
    }

    private static void of() {
        Edge.of("Of a PERSON the PURSE (what 0), how many HOURS are HELD (1), PAWNED (2), LOST (3), what one KNOWS, as bits (4). NONE.",
            () -> {
                PawnedHours x = Check.withPeople(2);
                Check.run(x, "of 0 0 = 0", "of 0 1 = 12", "of 0 2 = 0", "of 0 3 = 0", "of 0 4 = 0", "of 0 5 = -1", "of 0 -1 = -1",
                    "of 2 0 = -1", "of -1 0 = -1", "of 5 4 = -1", "of 2147483647 0 = -1", "of 0 2147483647 = -1");
                for (int hour = 0; hour < 12; hour++) {
                    Check.due("put", x.put(1, hour, 0, hour % 8), -1);
                }
                Check.run(x, "of 1 4 = 255", "terms 2 1 = 9");
                for (int hour = 0; hour < 12; hour++) {
                    Check.due("pawn", x.pawn(1, hour), 1);
                }
                Check.run(x, "of 1 1 = 0", "of 1 2 = 12", "of 1 4 = 0", "pass = 1");
                for (int hour = 0; hour < 12; hour++) {
                    Check.due("auction", x.auction(1, hour), 1);
                }
                Check.run(x, "of 1 1 = 0", "of 1 2 = 0", "of 1 3 = 12", "of 1 4 = 0", "of 0 1 = 12", "count 2 = 12");
            });
    }

    private static void needs() {
        Edge.of("What a FACT NEEDS (NONE: nothing): what it was. -1 (itself, too).", () -> {
            PawnedHours x = new PawnedHours();
            Check.run(x, "needs 7 6 = -1", "status = 0", "needs 7 7 = -1", "status = -1", "needs 0 0 = -1", "status = -1",
                "needs 8 0 = -1", "status = -1", "needs -1 0 = -1", "status = -1", "needs -1 -1 = -1", "status = -1",
                "needs 7 8 = -1", "status = -1", "needs 7 -2 = -1", "status = -1", "count 6 = 7", "needs 7 -1 = 6",
                "status = 0", "needs 7 -1 = -1", "status = 0");
        });
    }

    private static void terms() {
        Edge.of("`int terms(int what, int value)`: A TERM: what it was. -1; -3", () -> {
            PawnedHours x = new PawnedHours();
            Check.run(x, "terms 0 1 = 0", "terms 1 2 = 5", "terms 2 3 = 9", "terms 3 4 = 3", "terms 4 5 = 0", "terms 5 0 = -1",
                "status = -1", "terms -1 0 = -1", "terms 2147483647 0 = -1", "terms -2147483648 0 = -1", "count 12 = 1",
                "count 13 = 2", "count 14 = 3", "count 15 = 4", "count 16 = 5");
        });
        Edge.of("-3 (a DAY ahead of one on which something is PAWNED yet).", () -> {
            PawnedHours x = Check.withPeople(6);
            Check.run(x, "terms 0 20 = 0", "pawn 0 0 = 1", "terms 0 30 = 20", "pawn 5 11 = 1", "terms 0 40 = 30", "terms 0 29 = -3",
                "status = -3", "count 12 = 40", "terms 0 30 = 40", "status = 0", "redeem 5 11 = 1", "terms 0 19 = -3",
                "terms 0 20 = 30");
            // What is lost or held again is not pawned yet.
            Check.run(x, "terms 2 1 = 9", "pass = 21", "auction 0 0 = 1", "terms 0 0 = 21", "status = 0", "count 12 = 0");
            // Other terms than the day are free.
            Check.run(x, "terms 0 500 = 0", "pawn 0 1 = 1", "terms 1 0 = 5", "terms 2 1 = 1", "terms 3 0 = 3", "terms 4 0 = 0",
                "terms 0 500 = 500");
        });
    }
}
