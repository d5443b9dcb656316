/** The boundaries of promises 29 to 33 and of plans, sales and chances in Terms III, each by the words that name it. */
public final class PlansEdgesTest {
    private static final long ALL = 1_000_000_000_000L;

    public static void main(String[] args) {
        raising();
        raise();
        redeeming();
        cheapest();
        bid();
        selling();
        sale();
        chances();
        lasting();
        Check.end();
    }

    private static void raising() {
        Edge.of("(On paper:) To RAISE a sum: HOURS that are HELD, none BARRED, are pawned now, by which that much is LENT together or more, and all told FACTS that one KNOWS now are KNOWN yet: the least WORTH together; the lowest as bits.",
            () -> {
                PawnedHours x = Check.withPeople(1);
                // Twelve hours of worth 1: that much, or more, or too much.
                Check.run(x, "raise 0 0 0 1 = 0", "raise 0 1 0 1 = 1", "raise 0 2 0 1 = 3", "raise 0 12 0 1 = 4095",
                    "raise 0 12 0 0 = 12", "raise 0 13 0 1 = -1", "raise 0 13 0 0 = -1", "raise 0 13 0 2 = -1");
                // Neither pawned nor lost ones.
                Check.run(x, "terms 2 1 = 9", "pawn 0 0 = 1", "pawn 0 1 = 1", "pass = 1", "auction 0 1 = 1", "raise 0 1 0 1 = 4",
                    "raise 0 10 0 1 = 4092", "raise 0 11 0 1 = -1");
                // What is worth nothing is left where it does not help, taken where it does.
                Check.run(x, "put 0 2 2 0 = 1", "raise 0 0 0 1 = 0", "raise 0 1 0 1 = 8", "raise 0 9 0 1 = 4088",
                    "raise 0 9 0 0 = 9", "raise 0 10 0 1 = -1");
                // On paper: nothing is pawned.
                Check.run(x, "of 0 0 = 7", "of 0 2 = 1", "count 1 = 1", "count 4 = 0", "status = 0");
                // Barred ones are left; the law's sums are lent, not the worth.
                PawnedHours y = Check.withPeople(1);
                Check.law(y, "lends 100 if hour<4;bars if hour>5;bars if hour=0", 0);
                Check.run(y, "force 0 = -1", "put 0 1 2 9 = 1", "raise 0 302 0 1 = 62", "raise 0 302 0 2 = 302", "raise 0 303 0 1 = -1",
                    "raise 0 100 0 1 = 4", "raise 0 101 0 1 = 12", "raise 0 101 0 2 = 200", "raise 0 103 0 1 = 12",
                    "raise 0 202 0 0 = 4", "raise 0 203 0 0 = 11", "raise 0 203 0 1 = 14", "raise 0 203 0 2 = 300");
                Check.law(y, "bars", 1);
                Check.run(y, "force 1 = 0", "raise 0 0 0 1 = 0", "raise 0 1 0 1 = -1");
                // Each one by one's own hours.
                PawnedHours z = Check.withPeople(6);
                Check.run(z, "put 5 11 2 99 = 1", "put 0 0 2 50 = 1", "raise 5 99 0 1 = 2048", "raise 5 110 0 1 = 4095",
                    "raise 5 111 0 1 = -1", "raise 0 50 0 1 = 1", "raise 0 62 0 1 = -1", "raise 4 12 0 1 = 4095", "raise 5 99 0 0 = 99");
            });
        Edge.of("all told FACTS that one KNOWS now are KNOWN yet", () -> {
            PawnedHours x = Check.withPeople(1);
            Check.run(x, "put 0 0 0 0 = -1", "put 0 5 0 1 = -1", "put 0 11 0 7 = -1", "put 0 10 0 7 = -1", "needs 1 0 = -1",
                "raise 0 12 0 1 = 4095", "raise 0 11 1 1 = 4094", "raise 0 12 1 1 = -1", "raise 0 10 2 1 = 4062",
                "raise 0 11 2 1 = -1", "raise 0 11 128 1 = 2047", "raise 0 12 128 1 = -1", "raise 0 9 255 1 = 2014",
                "raise 0 10 255 1 = -1");
            // What is not known now is not asked for.
            Check.run(x, "needs 0 6 = -1", "raise 0 12 3 1 = 4095", "raise 0 12 124 1 = 4095", "raise 0 11 255 1 = 2047");
        });
    }

    private static void raise() {
        Edge.of("To RAISE a sum 0 .. 9,999, told FACTS (bits) being KNOWN: WORTH (what 0), which HOURS, as bits (1), what is LENT (2). NONE (it can't be).",
            () -> {
                PawnedHours x = Check.withPeople(1);
                Check.law(x, "lends 1000", 0);
                Check.run(x, "force 0 = -1", "raise 0 9990 0 1 = 1023", "raise 0 9991 0 1 = 2047", "raise 0 9999 0 0 = 11",
                    "raise 0 9999 0 1 = 2047", "raise 0 9999 0 2 = 10989", "raise 0 10000 0 0 = -1", "raise 0 10000 0 1 = -1",
                    "raise 0 -1 0 0 = -1", "raise 0 0 0 0 = 0", "raise 0 0 0 1 = 0", "raise 0 0 0 2 = 0", "raise 0 0 255 0 = 0",
                    "raise 0 0 256 0 = -1", "raise 0 0 -1 0 = -1", "raise 0 0 0 3 = -1", "raise 0 0 0 -1 = -1",
                    "raise 1 0 0 0 = -1", "raise -1 0 0 0 = -1", "raise 0 2147483647 0 0 = -1", "raise 0 -2147483648 0 0 = -1",
                    "raise 0 0 2147483647 0 = -1", "raise 0 0 0 2147483647 = -1", "raise 2147483647 0 0 0 = -1", "status = 0");
            });
    }

    private static void redeeming() {
        Edge.of("To REDEEM all that are PAWNED (6 at most), one behind the other, each on the first DAY, this one or later, on which the PURSE has what it COSTS then",
            () -> {
                // The first day on which it can be paid, also if a later one would be cheaper.
                PawnedHours x = Check.withPeople(1);
                Check.law(x, "costs 10-days", 0);
                Check.run(x, "terms 1 0 = 5", "pawn 0 4 = 1", "force 0 = -1", "give 0 10 = 1", "cheapest 0 -1 = 10", "give 0 9 = 10",
                    "cheapest 0 -1 = 9", "give 0 0 = 9", "cheapest 0 -1 = 0", "cheapest 0 0 = 4", "hour 0 4 3 = 1", "count 12 = 0");
                // Six, in any order, but not seven, whatever they cost.
                PawnedHours y = Check.withPeople(1);
                for (int hour = 11; hour >= 6; hour--) {
                    Check.due("pawn", y.pawn(0, hour), 1);
                }
                Check.run(y, "cheapest 0 -1 = 6", "cheapest 0 0 = 6", "cheapest 0 5 = 11", "pawn 0 0 = 1", "cheapest 0 -1 = -1",
                    "cheapest 0 0 = -1");
            });
        Edge.of("(INCOME each DAY; 60 DAYS more at most, NOW goes on behind 999; more than one on a DAY can be)", () -> {
            PawnedHours x = Check.withPeople(1);
            Check.law(x, "costs 60", 0);
            Check.law(x, "costs 30", 1);
            Check.law(x, "costs 30+hour", 2);
            Check.run(x, "terms 1 1 = 5", "pawn 0 0 = 1", "give 0 0 = 1", "force 0 = -1", "cheapest 0 -1 = 60", "terms 1 0 = 1",
                "cheapest 0 -1 = -1", "give 0 59 = 0", "cheapest 0 -1 = -1", "give 0 60 = 59", "cheapest 0 -1 = 60",
                "terms 1 1 = 0", "give 0 0 = 60");
            // The sixty days are those of all together.
            Check.run(x, "pawn 0 1 = 1", "give 0 0 = 1", "force 1 = 0", "cheapest 0 -1 = 60", "cheapest 0 0 = 0", "cheapest 0 1 = 1",
                "force 2 = 1", "cheapest 0 -1 = -1", "give 0 1 = 0", "cheapest 0 -1 = 61");
            // Six, the last one on the last day.
            PawnedHours six = Check.withPeople(6);
            Check.law(six, "costs 10", 0);
            Check.law(six, "costs 10;costs 11 if hour=11", 1);
            Check.run(six, "terms 1 1 = 5");
            for (int hour = 6; hour < 12; hour++) {
                Check.due("pawn", six.pawn(5, hour), 1);
            }
            Check.run(six, "give 5 0 = 6", "force 0 = -1", "cheapest 5 -1 = 60", "cheapest 5 0 = 6", "cheapest 5 5 = 11", "force 1 = 0",
                "cheapest 5 -1 = -1", "give 5 1 = 0", "cheapest 5 -1 = 61");
            // Both on one day, with no income at all.
            Check.run(x, "terms 1 0 = 1", "force 1 = 2", "give 0 60 = 1", "cheapest 0 -1 = 60", "give 0 59 = 60", "cheapest 0 -1 = -1");
            // Today and the days since go on behind 999.
            PawnedHours y = Check.withPeople(1);
            Check.law(y, "costs 9*1000;costs 7 if today>1000+58", 0);
            Check.law(y, "costs 9*1000;costs 7 if today>1000+59", 1);
            Check.law(y, "costs 9*1000;costs days if days>68", 2);
            Check.law(y, "costs 9*1000;costs days if days>69", 3);
            Check.law(y, "costs 9*1000;costs today-1000 if today>1000", 4);
            Check.run(y, "terms 0 990 = 0", "pawn 0 2 = 1", "terms 0 999 = 990", "force 0 = -1", "cheapest 0 -1 = 7", "cheapest 0 0 = 2",
                "force 1 = 0", "cheapest 0 -1 = -1", "cheapest 0 0 = -1", "force 2 = 1", "cheapest 0 -1 = 69", "force 3 = 2",
                "cheapest 0 -1 = -1", "force 4 = 3", "cheapest 0 -1 = 1", "count 12 = 999");
        });
        Edge.of("by which least is paid; the first as a row of HOURS.", () -> {
            PawnedHours x = Check.withPeople(1);
            Check.run(x, "pawn 0 11 = 1", "pawn 0 3 = 1", "pawn 0 7 = 1", "cheapest 0 -1 = 3", "cheapest 0 0 = 3", "cheapest 0 1 = 7",
                "cheapest 0 2 = 11");
            // The dear one first, while it can be paid, if the other one gets cheaper by and by.
            PawnedHours y = Check.withPeople(1);
            Check.law(y, "costs 20-days if hour=1;costs 20 if hour=0", 0);
            Check.run(y, "terms 1 0 = 5", "pawn 0 0 = 1", "pawn 0 1 = 1", "force 0 = -1", "give 0 35 = 2", "cheapest 0 -1 = 35",
                "cheapest 0 0 = 0", "cheapest 0 1 = 1", "give 0 39 = 35", "cheapest 0 -1 = 39", "cheapest 0 0 = 0",
                "give 0 40 = 39", "cheapest 0 -1 = 40", "cheapest 0 0 = 0");
            Check.law(y, "costs 20-days if hour=0;costs 20 if hour=1", 1);
            Check.run(y, "force 1 = 0", "give 0 35 = 40", "cheapest 0 -1 = 35", "cheapest 0 0 = 1", "cheapest 0 1 = 0");
        });
    }

    private static void cheapest() {
        Edge.of("The cheapest way to REDEEM all: what is paid (i NONE), the i-th HOUR. NONE (it can't be; above 6 are PAWNED).",
            () -> {
                PawnedHours x = Check.withPeople(2);
                Check.run(x, "cheapest 0 -1 = 0", "cheapest 0 0 = -1", "cheapest 0 5 = -1", "pawn 1 11 = 1", "cheapest 0 -1 = 0",
                    "cheapest 1 -1 = 1", "cheapest 1 0 = 11", "cheapest 1 1 = -1", "cheapest 1 -2 = -1", "cheapest 2 -1 = -1",
                    "cheapest -1 -1 = -1", "cheapest 2147483647 -1 = -1", "cheapest 1 2147483647 = -1", "cheapest 1 -2147483648 = -1",
                    "terms 1 0 = 5", "give 1 0 = 1", "cheapest 1 -1 = -1", "cheapest 1 0 = -1", "status = 0");
                for (int hour = 0; hour < 12; hour++) {
                    x.pawn(0, hour);
                }
                Check.run(x, "of 0 2 = 12", "cheapest 0 -1 = -1");
                for (int hour = 0; hour < 5; hour++) {
                    x.redeem(0, hour);
                }
                Check.run(x, "of 0 2 = 7", "cheapest 0 -1 = -1", "redeem 0 5 = 1", "of 0 2 = 6", "cheapest 0 -1 = 6", "cheapest 0 0 = 6",
                    "cheapest 0 5 = 11", "cheapest 0 6 = -1");
                // Lost ones are not redeemed.
                Check.run(x, "terms 2 1 = 9", "pass = 1", "auction 0 6 = 1", "give 0 10 = 6", "cheapest 0 -1 = 10", "cheapest 0 0 = 7", "cheapest 0 5 = -1");
            });
    }

    private static void bid() {
        Edge.of("`int bid(int person, int lot, int value)`: A BID: what it was. -1; -2.", () -> {
            PawnedHours x = Check.withPeople(1);
            Check.run(x, "bid 0 0 999 = 0", "bid 0 3 1 = 0", "bid 0 0 1000 = -1", "status = -1", "bid 0 0 -1 = -1", "bid 0 4 1 = -1",
                "bid 0 -1 1 = -1", "bid 0 2147483647 1 = -1", "bid 0 0 2147483647 = -1", "bid 1 0 1 = -2", "status = -2",
                "bid -1 0 1 = -2", "bid 2147483647 0 1 = -2", "bid 0 0 0 = 999", "status = 0", "bid 0 3 0 = 1", "count 6 = 6",
                "count 7 = 3");
        });
    }

    private static void selling() {
        Edge.of("A SALE of LOTS 0 .. 3 to PEOPLE, each one at most: the most BIDS together; the first as a row of buyers by LOTS (none last; by a BID of 0 none buys); one pays: what the others' BIDS could come to without that one, less what they come to now.",
            () -> {
                // One alone buys one lot, the first of the dearest, for nothing.
                PawnedHours one = Check.withPeople(1);
                Check.run(one, "bid 0 0 5 = 0", "bid 0 1 6 = 0", "bid 0 2 6 = 0", "bid 0 3 1 = 0", "sale 0 = 6", "sale 1 = 100",
                    "sale 2 = 0", "sale 3 = 100", "sale 4 = 100", "sale 5 = 0", "sale 6 = 0", "sale 7 = 0", "sale 8 = 0");
                // Alike: the row that has somebody on lot 0 comes ahead of the one that has nobody there.
                Check.run(one, "bid 0 0 6 = 5", "sale 1 = 0", "sale 2 = 100");
                // Two who bid the same: the lower number buys, and pays all of it.
                PawnedHours two = Check.withPeople(2);
                Check.run(two, "bid 1 3 999 = 0", "sale 4 = 1", "sale 8 = 0", "bid 0 3 999 = 0", "sale 0 = 999", "sale 4 = 0",
                    "sale 8 = 999", "bid 0 3 998 = 999", "sale 4 = 1", "sale 8 = 998");
                // Nobody bids: nobody buys, though nothing would be lost by it.
                PawnedHours none = Check.withPeople(6);
                Check.run(none, "sale 0 = 0", "sale 1 = 100", "sale 2 = 100", "sale 3 = 100", "sale 4 = 100", "sale 5 = 0", "sale 8 = 0",
                    "bid 5 2 1 = 0", "sale 0 = 1", "sale 3 = 5", "sale 1 = 100", "sale 7 = 0");
                // Six for four lots, all at the most: the first four buy at the most.
                for (int person = 0; person < 6; person++) {
                    for (int lot = 0; lot < 4; lot++) {
                        none.bid(person, lot, 999);
                    }
                }
                Check.run(none, "sale 0 = 3996", "sale 1 = 0", "sale 2 = 1", "sale 3 = 2", "sale 4 = 3", "sale 5 = 999", "sale 8 = 999");
                // Three for two lots: what each one's buying costs the others.
                PawnedHours three = Check.withPeople(3);
                Check.run(three, "bid 0 0 10 = 0", "bid 1 0 9 = 0", "bid 1 1 8 = 0", "bid 2 1 5 = 0", "sale 0 = 18", "sale 1 = 0",
                    "sale 2 = 1", "sale 5 = 6", "sale 6 = 5", "sale 3 = 100", "sale 7 = 0");
            });
    }

    private static void sale() {
        Edge.of("BIDS together (what 0), who buys LOT 0 .. 3 (1 + LOT; 100: nobody), what that one pays (5 + LOT; 0: nobody). NONE.",
            () -> {
                PawnedHours x = new PawnedHours();
                Check.run(x, "sale 0 = 0", "sale 1 = 100", "sale 4 = 100", "sale 5 = 0", "sale 8 = 0", "sale 9 = -1", "sale -1 = -1",
                    "sale 2147483647 = -1", "sale -2147483648 = -1", "status = 0");
                PawnedHours y = Check.withPeople(5);
                Check.run(y, "bid 4 0 1 = 0", "bid 3 1 2 = 0", "bid 2 2 3 = 0", "bid 1 3 4 = 0", "bid 0 0 1 = 0", "bid 0 3 3 = 0",
                    "sale 0 = 10", "sale 1 = 0", "sale 2 = 3", "sale 3 = 2", "sale 4 = 1", "sale 5 = 1", "sale 6 = 0", "sale 7 = 0",
                    "sale 8 = 3");
            });
    }

    private static void last(PawnedHours x, int sum, int n, long want) {
        Check.due("lasting(0, " + sum + ", " + n + ")", x.lasting(0, sum, n), want);
    }

    private static void chances() {
        Edge.of("the chance, of 1,000,000,000,000 parts, that one can pay a told sum on each of n DAYS on which it is asked for (in ODDS of ten; INCOME comes ahead of it; the PURSE as it is, without a greatest); each part is cut.",
            () -> {
                PawnedHours x = Check.withPeople(1);
                // Income comes ahead: 5 can be paid on the first day, 6 not.
                Check.run(x, "terms 3 10 = 3");
                last(x, 5, 1, ALL);
                last(x, 6, 1, 0);
                last(x, 5, 40, ALL);
                // Asked for each day, never, or now and then.
                Check.run(x, "terms 3 0 = 10");
                last(x, 9999, 40, ALL);
                Check.run(x, "terms 3 1 = 0");
                last(x, 9999, 1, 900_000_000_000L);
                last(x, 9999, 2, 810_000_000_000L);
                Check.run(x, "terms 3 9 = 1");
                last(x, 9999, 1, 100_000_000_000L);
                last(x, 9999, 12, 1);
                last(x, 9999, 13, 0);
                // What was not asked for stays in the purse: 10 on the second day.
                last(x, 10, 2, 100_000_000_000L);
                last(x, 11, 2, 10_000_000_000L);
                // No greatest purse: by 99 more a day 99,999 last for 40 times 2,598, and not for 2,599.
                Check.run(x, "terms 3 10 = 9", "terms 1 99 = 5", "give 0 99999 = 0");
                last(x, 2598, 40, ALL);
                last(x, 2599, 40, 0);
                last(x, 2599, 39, ALL);
                // Halves are cut from the 13th day on.
                Check.run(x, "terms 3 5 = 10", "terms 1 0 = 99", "give 0 0 = 99999");
                last(x, 1, 12, 244_140_625L);
                last(x, 1, 13, 122_070_312L);
                last(x, 1, 14, 61_035_156L);
                last(x, 1, 39, 1);
                last(x, 1, 40, 0);
            });
    }

    private static void lasting() {
        Edge.of("LASTING for a sum 0 .. 9,999 and n DAYS 0 .. 40. NONE.", () -> {
            PawnedHours x = Check.withPeople(1);
            last(x, 0, 0, ALL);
            last(x, 9999, 0, ALL);
            last(x, 0, 12, ALL);
            last(x, 10000, 0, -1);
            last(x, -1, 0, -1);
            last(x, 0, 41, -1);
            last(x, 0, -1, -1);
            last(x, Integer.MAX_VALUE, 1, -1);
            last(x, Integer.MIN_VALUE, 1, -1);
            last(x, 1, Integer.MAX_VALUE, -1);
            last(x, 1, Integer.MIN_VALUE, -1);
            Check.run(x, "lasting 1 0 0 = -1", "lasting -1 0 0 = -1", "lasting 2147483647 0 0 = -1", "terms 3 10 = 3",
                "give 0 99999 = 0", "terms 1 99 = 5", "lasting 0 9999 10 = 1000000000000", "lasting 0 9999 11 = 0",
                "terms 3 0 = 10", "lasting 0 0 40 = 1000000000000", "terms 3 10 = 0", "lasting 0 0 40 = 1000000000000", "status = 0");
        });
    }
}
