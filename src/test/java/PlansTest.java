/** Promises 29 to 33: to raise a sum, to redeem all, a sale, how likely a purse lasts. */
public final class PlansTest {
    public static void main(String[] args) {
        raise();
        raiseByLaw();
        cheapest();
        cheapestByLaw();
        bid();
        sale();
        saleTies();
        lasting();
        lastingIsCut();
        Check.end();
    }

    private static void raise() {
        PawnedHours x = Check.withPeople(1);
        Check.run(x, "put 0 0 2 50 = 1", "put 0 1 2 30 = 1", "put 0 2 2 20 = 1", "raise 0 50 0 0 = 50",
            "raise 0 50 0 1 = 1", "raise 0 50 0 2 = 50", "raise 0 51 0 0 = 51", "raise 0 51 0 1 = 9",
            "raise 0 0 0 0 = 0", "raise 0 0 0 1 = 0", "raise 0 0 0 2 = 0", "raise 0 109 0 1 = 4095",
            "raise 0 110 0 1 = -1", "raise 0 9999 0 0 = -1", "raise 0 10000 0 0 = -1", "raise 0 -1 0 0 = -1",
            "raise 0 1 256 0 = -1", "raise 0 1 -1 0 = -1", "raise 0 1 255 0 = 1", "raise 0 1 0 3 = -1",
            "raise 0 1 0 -1 = -1", "raise 1 0 0 0 = -1", "raise -1 0 0 0 = -1", "count 1 = 0", "of 0 0 = 0");
        // Nothing has worth 0: the lowest set of those that cost least.
        Check.run(x, "put 0 7 2 0 = 1", "raise 0 0 0 1 = 0", "raise 0 1 0 1 = 8", "pawn 0 3 = 1", "raise 0 1 0 1 = 16");
        // Facts: what is not known now need not be known then; what an hour gives twice may go once.
        PawnedHours y = Check.withPeople(1);
        Check.run(y, "put 0 0 0 1 = -1", "put 0 1 0 1 = -1", "put 0 2 0 2 = -1", "needs 2 1 = -1", "raise 0 12 0 1 = 4095",
            "raise 0 12 8 1 = 4095", "raise 0 11 2 1 = 4093", "raise 0 12 2 1 = -1", "raise 0 10 6 1 = 4089",
            "raise 0 10 6 0 = 10", "raise 0 11 6 1 = -1", "raise 0 11 4 1 = -1", "raise 0 10 4 1 = 4089",
            "pawn 0 0 = 1", "raise 0 9 6 1 = 4088", "pawn 0 1 = 1", "raise 0 10 6 1 = 4092");
    }

    private static void raiseByLaw() {
        PawnedHours x = Check.withPeople(1);
        Check.law(x, "lends 100 * hour + 7;bars if hour = 11", 0);
        Check.run(x, "force 0 = -1", "raise 0 907 0 1 = 512", "raise 0 907 0 2 = 907", "put 0 9 2 2 = 1",
            "raise 0 907 0 1 = 1024", "raise 0 907 0 2 = 999", "raise 0 900 0 0 = 1", "raise 0 1000 0 1 = 80",
            "raise 0 1000 0 2 = 1014", "raise 0 5562 0 1 = 2046", "raise 0 5569 0 1 = 2047", "raise 0 5570 0 1 = -1",
            "put 0 10 2 9 = 1", "raise 0 908 0 1 = 48", "put 0 5 2 0 = 1", "raise 0 1000 0 1 = 96");
        Check.law(x, "lends 1000", 1);
        Check.run(x, "force 1 = 0", "raise 0 9999 0 2 = 10989", "raise 0 9999 0 0 = 11", "raise 0 9999 0 1 = 3071");
    }

    private static void cheapest() {
        PawnedHours x = Check.withPeople(1);
        Check.run(x, "cheapest 0 -1 = 0", "cheapest 0 0 = -1", "put 0 2 2 30 = 1", "put 0 5 2 10 = 1", "pawn 0 2 = 30",
            "pawn 0 5 = 10", "cheapest 0 -1 = 40", "cheapest 0 0 = 2", "cheapest 0 1 = 5", "cheapest 0 2 = -1",
            "cheapest 0 -2 = -1", "cheapest 1 -1 = -1", "cheapest -1 -1 = -1");
        // By 5 a day: hour 5 costs 13 on day 3, hour 2 then 41 on day 11; the other way 38 on day 8, 22 on day 12.
        Check.run(x, "give 0 0 = 40", "cheapest 0 -1 = 54", "cheapest 0 0 = 5", "cheapest 0 1 = 2", "of 0 0 = 0",
            "count 12 = 0");
        // Sixty days more and no more.
        Check.run(x, "terms 1 1 = 5", "give 0 0 = 0", "cheapest 0 -1 = -1", "terms 1 0 = 1", "give 0 40 = 0",
            "cheapest 0 -1 = 40", "give 0 39 = 40", "cheapest 0 -1 = -1", "cheapest 0 0 = -1");
        PawnedHours y = Check.withPeople(1);
        Check.law(y, "costs 60", 0);
        Check.run(y, "terms 1 1 = 5", "pawn 0 7 = 1", "give 0 0 = 1", "force 0 = -1", "cheapest 0 -1 = 60",
            "cheapest 0 0 = 7", "redeem 0 7 = -3");
        Check.law(y, "costs 61", 1);
        Check.run(y, "force 1 = 0", "cheapest 0 -1 = -1", "give 0 1 = 0", "cheapest 0 -1 = 61");
        // Six, not seven.
        PawnedHours z = Check.withPeople(1);
        for (int hour = 11; hour > 5; hour--) {
            z.pawn(0, hour);
        }
        Check.run(z, "cheapest 0 -1 = 6", "cheapest 0 0 = 6", "cheapest 0 5 = 11", "cheapest 0 6 = -1", "pawn 0 0 = 1",
            "cheapest 0 -1 = -1", "cheapest 0 0 = -1", "redeem 0 9 = 1", "cheapest 0 0 = 0", "cheapest 0 1 = 6");
    }

    private static void cheapestByLaw() {
        // Hour 1 gets cheaper by waiting: hour 0 for 20 on day 2, then hour 1 for 4 on day 3.
        PawnedHours x = Check.withPeople(1);
        Check.law(x, "costs 20;costs 10 - days * 2 if hour = 1", 0);
        Check.run(x, "pawn 0 0 = 1", "pawn 0 1 = 1", "give 0 12 = 2", "force 0 = -1", "cheapest 0 -1 = 24",
            "cheapest 0 0 = 0", "cheapest 0 1 = 1");
        // Now goes on behind 999.
        PawnedHours y = Check.withPeople(1);
        Check.law(y, "costs 9 * 1000;costs today - 990 if today > 1000 + 10", 0);
        Check.run(y, "terms 0 999 = 0", "pawn 0 3 = 1", "force 0 = -1", "cheapest 0 -1 = 21", "cheapest 0 0 = 3");
        Check.law(y, "costs 9 * 1000;costs days if days > 60", 1);
        Check.run(y, "force 1 = 0", "cheapest 0 -1 = -1");
        Check.law(y, "costs 9 * 1000;costs days if days > 59", 2);
        Check.run(y, "force 2 = 1", "cheapest 0 -1 = 60");
    }

    private static void bid() {
        PawnedHours x = Check.withPeople(2);
        Check.run(x, "bid 0 0 999 = 0", "bid 0 0 1000 = -1", "bid 0 0 -1 = -1", "bid 0 4 1 = -1", "bid 0 -1 1 = -1",
            "bid 2 0 1 = -2", "bid -1 0 1 = -2", "bid 2 4 1 = -1", "status = -1", "bid 0 0 0 = 999", "status = 0",
            "bid 1 3 5 = 0", "bid 1 3 6 = 5", "bid 0 3 1 = 0", "sale 0 = 6");
    }

    private static void sale() {
        PawnedHours x = Check.withPeople(3);
        Check.run(x, "bid 0 0 10 = 0", "bid 0 1 9 = 0", "bid 1 0 8 = 0", "bid 1 1 2 = 0", "bid 2 1 5 = 0", "sale 0 = 17",
            "sale 1 = 1", "sale 2 = 0", "sale 3 = 100", "sale 4 = 100", "sale 5 = 6", "sale 6 = 5", "sale 7 = 0",
            "sale 8 = 0", "sale 9 = -1", "sale -1 = -1");
        // Two rows come to 17 now; the one with 0 as the first buyer comes first.
        Check.run(x, "bid 2 1 7 = 5", "sale 0 = 17", "sale 1 = 0", "sale 2 = 2", "sale 5 = 8", "sale 6 = 7");
        PawnedHours one = Check.withPeople(1);
        Check.run(one, "bid 0 2 4 = 0", "bid 0 3 4 = 0", "sale 0 = 4", "sale 3 = 0", "sale 4 = 100", "sale 7 = 0");
    }

    private static void saleTies() {
        PawnedHours x = Check.withPeople(3);
        // All alike: the row 0, 1, 2, nobody is the first one.
        for (int p = 0; p < 3; p++) {
            for (int lot = 0; lot < 4; lot++) {
                x.bid(p, lot, 5);
            }
        }
        Check.run(x, "sale 0 = 15", "sale 1 = 0", "sale 2 = 1", "sale 3 = 2", "sale 4 = 100", "sale 5 = 0", "sale 6 = 0",
            "sale 7 = 0");
        // A bid of 0 buys nothing, even if it is free.
        PawnedHours y = Check.withPeople(2);
        Check.run(y, "bid 1 3 7 = 0", "sale 0 = 7", "sale 1 = 100", "sale 2 = 100", "sale 4 = 1", "sale 8 = 0",
            "bid 0 3 7 = 0", "sale 4 = 0", "sale 8 = 7", "bid 0 0 7 = 0", "sale 0 = 14", "sale 1 = 0", "sale 4 = 1",
            "sale 8 = 0", "sale 5 = 0");
        // Six for four lots.
        PawnedHours z = Check.withPeople(6);
        for (int p = 0; p < 6; p++) {
            for (int lot = 0; lot < 4; lot++) {
                z.bid(p, lot, 10 + p);
            }
        }
        Check.run(z, "sale 0 = 54", "sale 1 = 2", "sale 2 = 3", "sale 3 = 4", "sale 4 = 5", "sale 5 = 11", "sale 8 = 11");
    }

    private static void lasting(PawnedHours x, int sum, int n, long want) {
        Check.due("lasting(0, " + sum + ", " + n + ")", x.lasting(0, sum, n), want);
    }

    private static void lasting() {
        PawnedHours x = Check.withPeople(1);
        lasting(x, 0, 0, 1_000_000_000_000L);
        lasting(x, 9999, 0, 1_000_000_000_000L);
        lasting(x, 9999, 1, 700_000_000_000L);
        lasting(x, 5, 12, 1_000_000_000_000L);
        lasting(x, 6, 1, 700_000_000_000L);
        // 10 on day 2: one payment of 8 can be made then, none on day 1.
        lasting(x, 8, 2, 700_000_000_000L);
        // Day 3: 15 less 8 is 7, so who paid on day 2 can't on day 3.
        lasting(x, 8, 3, 637_000_000_000L);
        lasting(x, 10000, 1, -1);
        lasting(x, -1, 1, -1);
        lasting(x, 5, 41, -1);
        lasting(x, 5, -1, -1);
        Check.due("lasting(1, 5, 1)", x.lasting(1, 5, 1), -1);
        Check.due("lasting(-1, 5, 1)", x.lasting(-1, 5, 1), -1);
        Check.run(x, "terms 3 10 = 3");
        lasting(x, 5, 40, 1_000_000_000_000L);
        lasting(x, 6, 40, 0);
        Check.run(x, "give 0 40 = 0");
        lasting(x, 6, 40, 1_000_000_000_000L);
        Check.run(x, "give 0 39 = 40");
        lasting(x, 6, 40, 0);
        lasting(x, 6, 39, 1_000_000_000_000L);
        Check.run(x, "terms 3 0 = 10");
        lasting(x, 9999, 40, 1_000_000_000_000L);
        // No greatest purse here.
        Check.run(x, "terms 3 10 = 0", "terms 1 99 = 5", "give 0 99999 = 39");
        lasting(x, 2598, 40, 1_000_000_000_000L);
        lasting(x, 2599, 40, 1_000_000_000_000L - 1_000_000_000_000L);
        Check.run(x, "of 0 0 = 99999", "count 12 = 0");
    }

    private static void lastingIsCut() {
        PawnedHours x = Check.withPeople(1);
        Check.run(x, "terms 1 0 = 5", "terms 3 5 = 3");
        lasting(x, 1, 12, 244_140_625L);
        lasting(x, 1, 13, 122_070_312L);
        lasting(x, 1, 14, 61_035_156L);
        lasting(x, 1, 40, 0);
        // On day 13 four of the piles by how often it was asked are odd, and each loses a half in both of its parts.
        lasting(x, 0, 12, 1_000_000_000_000L);
        lasting(x, 0, 13, 999_999_999_996L);
    }
}
