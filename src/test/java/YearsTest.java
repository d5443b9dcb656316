/** Promises 34 to 39: years by draws, images, counts, the status. */
public final class YearsTest {
    public static void main(String[] args) {
        years();
        yearsByDraws();
        yearsEnd();
        drawn();
        image();
        back();
        backToLaws();
        count();
        status();
        Check.end();
    }

    private static void years() {
        PawnedHours x = new PawnedHours();
        Check.run(x, "years 0 1 = -3", "status = -3", "years 0 0 = -1", "years -1 1 = -1", "years 1000001 1 = -1",
            "years 0 61 = -1", "status = -1", "person = 0", "years 0 1 = 1", "status = 0", "years 1000000 60 = 33",
            "count 12 = 0", "of 0 0 = 0", "of 0 1 = 12", "count 4 = 0", "count 1 = 0");
    }

    /** The draws told in the document, done once more by hand. */
    private static void yearsByDraws() {
        for (int seed = 0; seed <= 1_000_000; seed += 62_500) {
            PawnedHours x = Check.withPeople(2);
            PawnedHours y = Check.withPeople(2);
            Check.run(x, "give 0 3 = 0", "put 1 4 2 60 = 1", "put 1 3 0 4 = -1", "put 0 3 0 4 = -1");
            Check.run(y, "give 0 3 = 0", "put 1 4 2 60 = 1", "put 1 3 0 4 = -1", "put 0 3 0 4 = -1");
            Check.law(x, "lends worth + hour;bars if hour = 7;costs loan + days + person", 0);
            Check.law(y, "lends worth + hour;bars if hour = 7;costs loan + days + person", 0);
            Check.run(x, "force 0 = -1");
            Check.run(y, "force 0 = -1");
            long s = seed;
            int pawned = 0;
            for (int day = 0; day < 40; day++) {
                s = (s * 1103 + 12345) % 1_000_003;
                int person = (int) (s % 2);
                s = (s * 1103 + 12345) % 1_000_003;
                int hour = (int) (s % 12);
                if (y.hour(person, hour, 3) == 0) {
                    pawned += y.pawn(person, hour) >= 0 ? 1 : 0;
                } else {
                    y.redeem(person, hour);
                }
                y.pass();
            }
            Check.due("years(" + seed + ", 40)", x.years(seed, 40), pawned);
            for (int person = 0; person < 2; person++) {
                int held = 0;
                for (int hour = 0; hour < 12; hour++) {
                    held |= y.hour(person, hour, 3) == 0 ? 1 << hour : 0;
                }
                Check.due("drawn purse", x.drawn(person, 0), y.of(person, 0));
                Check.due("drawn known", x.drawn(person, 1), y.of(person, 4));
                Check.due("drawn held", x.drawn(person, 2), held);
            }
        }
    }

    private static void yearsEnd() {
        PawnedHours x = Check.withPeople(1);
        // On day 999 one hour is still drawn, and the day does not end.
        Check.run(x, "terms 0 999 = 0", "years 0 60 = 1", "drawn 0 0 = 1", "terms 0 998 = 999", "years 0 60 = 2",
            "drawn 0 0 = 7");
        Check.run(x, "give 0 99999 = 0", "years 0 1 = 1", "drawn 0 0 = 99999");
    }

    private static void drawn() {
        PawnedHours x = Check.withPeople(2);
        Check.run(x, "drawn 0 0 = -1", "put 0 1 0 6 = -1", "years 3 1 = 1", "drawn 0 3 = -1", "drawn 0 -1 = -1",
            "drawn 2 0 = -1", "drawn -1 0 = -1", "drawn 0 1 = 64", "drawn 1 1 = 0");
        // The latest years stay what they were, whatever comes, and whoever.
        int purse = x.drawn(0, 0);
        int held = x.drawn(0, 2);
        Check.run(x, "person = 2", "put 0 1 0 -1 = 6", "give 0 77 = 0", "pawn 0 2 = 1", "drawn 2 0 = -1", "years 0 0 = -1",
            "drawn 0 1 = 64");
        Check.due("drawn(0, 0)", x.drawn(0, 0), purse);
        Check.due("drawn(0, 2)", x.drawn(0, 2), held);
        PawnedHours y = Check.withPeople(1);
        Check.run(y, "image 0 = 0", "years 0 1 = 1", "back 0 = 0", "drawn 0 0 = 6", "drawn 0 2 = 4063");
    }

    private static void image() {
        PawnedHours x = Check.withPeople(1);
        Check.run(x, "image 2 = -1", "status = -1", "image -1 = -1", "image 0 = 0", "status = 0", "pass = 1",
            "image 1 = 0", "count 4 = 1", "undo = 2", "pass = 1", "pass = 2", "image 0 = 0", "back 1 = 0",
            "count 12 = 1", "back 0 = 0", "count 12 = 2");
    }

    private static void back() {
        PawnedHours x = Check.withPeople(2);
        Check.run(x, "back 0 = -2", "status = -2", "back 1 = -2", "back 2 = -1", "back -1 = -1", "put 0 0 0 4 = -1",
            "put 0 0 1 2 = 0", "put 0 0 2 9 = 1", "pawn 0 0 = 9", "needs 4 5 = -1", "bid 1 2 8 = 0", "terms 4 3 = 0",
            "pass = 1", "feed 0 0 0 0 0 = 20", "image 0 = 0");
        Check.run(x, "put 0 0 0 2 = 4", "put 0 0 1 0 = 2", "put 0 0 2 1 = 9", "redeem 0 0 = 10", "needs 4 -1 = 5",
            "bid 1 2 0 = 8", "terms 4 0 = 3", "pass = 2", "person = 2", "give 1 50 = 10", "pass = 3", "end 3 = 3",
            "terms 1 6 = 5", "terms 2 7 = 9", "terms 3 8 = 3", "put 1 1 1 4 = 0");
        Check.run(x, "back 0 = 0", "status = 0", "count 0 = 2", "hour 0 0 0 = 4", "hour 0 0 1 = 2", "hour 0 0 2 = 9",
            "hour 0 0 3 = 1", "hour 0 0 4 = 9", "hour 0 0 5 = 1", "of 0 0 = 14", "of 1 0 = 5", "count 12 = 1",
            "count 13 = 5", "count 14 = 9", "count 15 = 3", "count 16 = 3", "sale 0 = 8", "needs 4 -1 = 5", "count 5 = 3",
            "count 4 = 0", "undo = -3", "hour 1 1 1 = 0", "put 1 1 1 4 = -1");
        // Images stay, and somebody new is new.
        Check.run(x, "person = 2", "of 2 0 = 0", "hour 2 0 2 = 1", "bid 2 0 3 = 0", "back 0 = 0", "count 0 = 2",
            "needs 4 -1 = 5", "person = 2", "bid 2 0 1 = 0", "back 1 = -2");
    }

    private static void backToLaws() {
        PawnedHours x = Check.withPeople(1);
        Check.law(x, "lends 5", 0);
        Check.run(x, "force 0 = -1", "image 0 = 0");
        Check.law(x, "lends 6", 1);
        Check.run(x, "force 1 = 0", "hour 0 0 6 = 6", "image 1 = 0", "back 0 = 0", "count 3 = 1", "count 11 = 0",
            "hour 0 0 6 = 5", "force 1 = -2");
        Check.law(x, "lends 7", 1);
        Check.run(x, "force 1 = 0", "hour 0 0 6 = 7", "back 1 = 0", "hour 0 0 6 = 6", "count 3 = 2", "back 0 = 0",
            "hour 0 0 6 = 5");
    }

    private static void count() {
        PawnedHours x = Check.withPeople(2);
        Check.run(x, "count 0 = 2", "pawn 0 0 = 1", "pawn 1 0 = 1", "pawn 1 1 = 1", "count 1 = 3", "terms 2 1 = 9",
            "pass = 1", "auction 1 1 = 1", "count 1 = 2", "count 2 = 1", "count 4 = 2", "count 3 = 0", "count 5 = 0",
            "count 17 = -1", "count -1 = -1", "count 2147483647 = -1");
        Check.law(x, "bars", 0);
        Check.law(x, "bars ?", -6);
        Check.run(x, "count 3 = 1", "count 10 = 1", "force 0 = -1", "count 11 = 0", "pawn 0 5 = -3", "pawn 0 12 = -1",
            "pawn 5 1 = -2", "orders = -6", "person = 2", "person = 3", "person = 4", "person = 5", "person = -5",
            "count 6 = 1", "count 7 = 1", "count 8 = 1", "count 9 = 1", "count 10 = 2");
        // Images do not keep what was refused; questions and the tape are never refused.
        Check.run(x, "image 0 = 0", "image 9 = -1", "back 0 = 0", "count 6 = 2", "hour 9 9 9 = -1", "end 9 = -1",
            "of 9 9 = -1", "lasting 9 9 9 = -1", "count 6 = 2", "count 12 = 1", "count 13 = 5", "count 14 = 1",
            "count 15 = 3", "count 16 = 0");
    }

    private static void status() {
        PawnedHours x = new PawnedHours();
        Check.run(x, "status = 0", "put 0 0 0 9 = -1", "status = -1", "person = 0", "status = 0", "put 1 0 0 0 = -2",
            "status = -2", "put 0 0 0 0 = -1", "status = 0", "give 0 -1 = -1", "status = -1", "give 0 0 = 0", "status = 0",
            "needs 9 9 = -1", "status = -1", "needs 0 1 = -1", "status = 0", "terms 9 9 = -1", "status = -1",
            "terms 1 1 = 5", "status = 0", "row 0 = -6", "status = -6", "law = -6", "status = -6", "force 0 = -2",
            "status = -2", "force -1 = -1", "status = 0", "pawn 0 12 = -1", "status = -1", "pawn 0 0 = 1", "status = 0",
            "redeem 0 1 = -3", "status = -3", "redeem 0 0 = 1", "status = 0", "auction 0 0 = -3", "status = -3",
            "pass = 1", "status = 0", "undo = 2", "status = 0", "orders = -6", "status = -6", "undo = 1", "status = 0",
            "undo = 0", "undo = -3", "status = -3", "bid 0 0 1 = 0", "status = 0", "bid 0 9 1 = -1", "status = -1",
            "years 0 1 = 1", "status = 0", "years 0 0 = -1", "status = -1", "image 0 = 0", "status = 0", "image 9 = -1",
            "status = -1", "back 0 = 0", "status = 0", "back 1 = -2", "status = -2");
        // Neither questions nor the tape change it.
        Check.run(x, "hour 0 0 0 = 0", "of 0 0 = 0", "feed 0 0 0 0 0 = 20", "end 3 = 3", "rain = 0", "fault = 0",
            "stopped = -1", "met 0 0 1 = 0", "learned 0 0 = -1", "deep 1 = 0", "lies -1 = 0", "forged -1 = 0",
            "stray 0 0 = 0", "raise 0 0 0 0 = 0", "cheapest 0 -1 = 0", "sale 0 = 1", "lasting 0 0 0 = 1000000000000",
            "drawn 0 0 = 2", "count 0 = 1", "status = -2", "row 0 = 1", "status = 0");
        Check.orders(x, "pass", 1);
        Check.run(x, "status = 0");
        Check.orders(x, "pawn 99 of 0", -3);
        Check.run(x, "status = -3");
        Check.law(x, "bars", 0);
        Check.run(x, "status = 0");
    }
}
