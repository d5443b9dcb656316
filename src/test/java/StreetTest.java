/** Promises 1 to 8: people, their hours, purses, what facts need, terms. */
public final class StreetTest {
    public static void main(String[] args) {
        newObject();
        person();
        put();
        putKnowsItsPlace();
        hour();
        give();
        of();
        needs();
        terms();
        termsAheadOfPawned();
        Check.end();
    }

    private static void newObject() {
        PawnedHours x = new PawnedHours();
        for (int what = 0; what <= 10; what++) {
            Check.due("count(" + what + ") of a new object", x.count(what), 0);
        }
        Check.run(x, "count 11 = -1", "count 12 = 0", "count 13 = 5", "count 14 = 9", "count 15 = 3", "count 16 = 0",
            "status = 0", "fault = -1", "stopped = -1", "rain = 0", "lies -1 = 0", "forged -1 = 0", "forged 0 = 0",
            "deep 1 = -1", "drawn 0 0 = -1", "sale 0 = 0", "sale 1 = 100", "sale 5 = 0", "of 0 0 = -1",
            "stray 0 0 = 0", "undo = -3", "back 0 = -2", "years 0 1 = -3", "raise 0 0 0 0 = -1", "cheapest 0 -1 = -1",
            "lasting 0 0 0 = -1", "learned 0 0 = -1", "met 0 1 0 = -1", "hour 0 0 0 = -1", "pass = 1");
    }

    private static void person() {
        PawnedHours x = new PawnedHours();
        Check.run(x, "person = 0", "person = 1", "person = 2", "person = 3", "person = 4", "person = 5",
            "status = 0", "person = -5", "status = -5", "count 0 = 6", "count 9 = 1", "of 5 0 = 0", "of 5 1 = 12",
            "pawn 5 11 = 1", "person = -5", "count 4 = 1");
        PawnedHours y = Check.withPeople(1);
        Check.run(y, "pawn 0 0 = 1", "count 4 = 1", "person = 1", "count 4 = 0", "undo = -3");
    }

    private static void put() {
        PawnedHours x = Check.withPeople(3);
        Check.run(x, "put 0 0 0 7 = -1", "status = 0", "put 0 0 0 -1 = 7", "put 0 0 0 0 = -1", "put 0 0 0 8 = -1",
            "status = -1", "put 0 0 0 -2 = -1", "status = -1", "hour 0 0 0 = 0",
            "put 1 11 1 5 = 0", "put 1 11 1 2 = -1", "put 1 11 1 7 = -1", "put 1 11 1 8 = -1", "put 1 11 1 -1 = -1",
            "put 1 11 1 0 = 5", "put 2 3 2 99 = 1", "put 2 3 2 100 = -1", "put 2 3 2 -1 = -1", "put 2 3 2 0 = 99",
            "put 0 12 2 1 = -1", "put 0 -1 2 1 = -1", "put 0 0 3 1 = -1", "put 0 0 -1 1 = -1",
            "put 3 0 2 1 = -2", "put -1 0 2 1 = -2", "put 3 12 2 1 = -1", "put -1 0 1 1 = -2", "put -1 0 1 8 = -1",
            "put 2147483647 0 2 1 = -2", "put 33 0 1 2 = -2", "put 0 0 1 -2147483648 = -1", "status = -1");
        // Of WITH the highest person counts, too.
        PawnedHours y = Check.withPeople(6);
        Check.run(y, "put 0 0 1 62 = 0", "put 0 0 1 63 = -1", "put 5 0 1 31 = 0", "put 5 0 1 32 = -1",
            "put 0 0 1 64 = -1", "hour 0 0 1 = 62");
    }

    /** Hours that are pawned or lost can be told of as well; others stay as they were. */
    private static void putKnowsItsPlace() {
        PawnedHours x = Check.withPeople(2);
        Check.run(x, "pawn 1 4 = 1", "put 1 4 2 30 = 1", "hour 1 4 4 = 1", "hour 1 4 3 = 1", "hour 1 4 2 = 30",
            "hour 1 3 2 = 1", "hour 1 5 2 = 1", "hour 0 4 2 = 1", "undo = -3", "count 4 = 0",
            "pawn 0 0 = 1", "put 0 0 2 100 = -1", "count 4 = 1", "undo = 0");
    }

    private static void hour() {
        PawnedHours x = Check.withPeople(2);
        Check.run(x, "hour 0 0 0 = -1", "hour 0 0 1 = 0", "hour 0 0 2 = 1", "hour 0 0 3 = 0", "hour 0 0 4 = -1",
            "hour 0 0 5 = -1", "hour 0 0 6 = 1", "hour 0 0 7 = -1", "hour 0 0 8 = 0", "hour 0 0 9 = -1",
            "hour 0 0 -1 = -1", "hour 0 12 2 = -1", "hour 0 -1 2 = -1", "hour 2 0 2 = -1", "hour -1 0 2 = -1");
        Check.run(x, "put 1 2 0 3 = -1", "put 1 2 1 1 = 0", "put 1 2 2 40 = 1", "pawn 1 2 = 40", "pass = 1",
            "pass = 2", "hour 1 2 0 = 3", "hour 1 2 1 = 1", "hour 1 2 2 = 40", "hour 1 2 3 = 1", "hour 1 2 4 = 40",
            "hour 1 2 5 = 2", "hour 1 2 6 = 40", "hour 1 2 7 = 42", "hour 1 2 8 = 0");
        Check.run(x, "terms 2 2 = 9", "auction 1 2 = 40", "hour 1 2 3 = 2", "hour 1 2 4 = -1", "hour 1 2 5 = -1",
            "hour 1 2 6 = 40", "hour 1 2 7 = -1", "hour 1 2 8 = 0");
        // What it lends and whether it is barred is asked as of one that is pawned now, whatever it is.
        PawnedHours y = Check.withPeople(1);
        Check.law(y, "lends 500 + loan * 10 + days;costs loan * 10 + days;bars if loan = 489", 0);
        Check.run(y, "force 0 = -1", "hour 0 0 6 = 489", "pawn 0 0 = 489", "pass = 1", "hour 0 0 6 = 489",
            "hour 0 0 7 = 4891", "hour 0 0 8 = 0", "hour 0 0 4 = 489", "hour 0 0 5 = 1");
    }

    private static void give() {
        PawnedHours x = Check.withPeople(1);
        Check.run(x, "give 0 99999 = 0", "give 0 100000 = -1", "give 0 -1 = -1", "status = -1", "give 0 7 = 99999",
            "give 1 7 = -2", "give -1 7 = -2", "give 1 -7 = -1", "of 0 0 = 7", "pass = 1", "give 1 0 = -2",
            "count 4 = 1", "give 0 0 = 12", "count 4 = 0", "status = 0");
    }

    private static void of() {
        PawnedHours x = Check.withPeople(2);
        Check.run(x, "put 0 1 0 2 = -1", "put 0 2 0 5 = -1", "put 1 0 0 0 = -1", "of 0 4 = 36", "of 1 4 = 1",
            "pawn 0 1 = 1", "pawn 0 3 = 1", "pawn 0 4 = 1", "of 0 0 = 3", "of 0 1 = 9", "of 0 2 = 3", "of 0 3 = 0",
            "of 0 4 = 32", "terms 2 1 = 9", "pass = 1", "auction 0 4 = 1", "of 0 1 = 9", "of 0 2 = 2", "of 0 3 = 1",
            "of 1 1 = 12", "of 0 5 = -1", "of 0 -1 = -1", "of 2 0 = -1", "of -1 0 = -1");
    }

    private static void needs() {
        PawnedHours x = Check.withPeople(1);
        Check.run(x, "needs 0 7 = -1", "status = 0", "needs 0 -1 = 7", "needs 7 0 = -1", "needs 8 0 = -1",
            "status = -1", "needs -1 0 = -1", "status = -1", "needs 0 8 = -1", "status = -1", "needs 0 -2 = -1",
            "status = -1", "needs 3 3 = -1", "status = -1", "needs 7 6 = 0", "count 6 = 5");
        // A fact is known if what it needs is known by an hour ahead, not by the same one or a later one.
        PawnedHours y = Check.withPeople(1);
        Check.run(y, "put 0 2 0 1 = -1", "put 0 5 0 0 = -1", "of 0 4 = 3", "needs 1 0 = -1", "of 0 4 = 1",
            "put 0 7 0 1 = -1", "of 0 4 = 3", "learned 0 1 = 7", "needs 0 1 = -1", "of 0 4 = 0",
            "pawn 0 11 = 1", "needs 0 -1 = 1", "count 4 = 1", "undo = 0");
    }

    private static void terms() {
        PawnedHours x = Check.withPeople(1);
        Check.run(x, "terms 0 999 = 0", "terms 0 1000 = -1", "terms 0 -1 = -1", "terms 1 99 = 5", "terms 1 100 = -1",
            "terms 1 -1 = -1", "terms 1 0 = 99", "terms 2 1 = 9", "terms 2 0 = -1", "terms 2 99 = 1",
            "terms 2 100 = -1", "terms 3 10 = 3", "terms 3 11 = -1", "terms 3 0 = 10", "terms 3 -1 = -1",
            "terms 4 9 = 0", "terms 4 10 = -1", "terms 4 -1 = -1", "terms 5 0 = -1", "terms -1 0 = -1",
            "count 12 = 999", "count 13 = 0", "count 14 = 99", "count 15 = 0", "count 16 = 9", "terms 0 0 = 999");
    }

    private static void termsAheadOfPawned() {
        PawnedHours x = Check.withPeople(2);
        Check.run(x, "terms 0 10 = 0", "pawn 1 0 = 1", "terms 0 9 = -3", "status = -3", "count 4 = 1",
            "terms 0 10 = 10", "count 4 = 0", "terms 0 30 = 10", "hour 1 0 5 = 20", "terms 0 10 = 30",
            "redeem 1 0 = 1", "terms 0 0 = 10", "count 12 = 0");
        Check.run(x, "pawn 0 0 = 1", "terms 2 1 = 9", "pass = 1", "pawn 0 1 = 1", "pass = 2", "auction 0 1 = 1",
            "terms 0 0 = 2", "pass = 1", "terms 1 0 = 5", "terms 0 1000 = -1");
    }
}
