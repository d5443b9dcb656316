/** Promises 9 to 12: the tape, and rows of hours on it. */
public final class TapeTest {
    public static void main(String[] args) {
        feed();
        end();
        row();
        rowEdges();
        rain();
        Check.end();
    }

    private static void feed() {
        PawnedHours x = Check.withPeople(1);
        for (int i = 1; i <= 20; i++) {
            Check.due("feed number " + i, x.feed(0, 0, 0, 0, 0), 20 * i);
        }
        Check.run(x, "feed 1 2 3 4 5 = -1", "status = 0", "count 5 = 400", "count 6 = 0", "end 381 = 381",
            "feed 1 2 3 4 5 = -1", "count 5 = 381", "end 380 = 380", "feed 1 2 3 4 5 = 400");
        // Four bytes a number, the highest first, without a sign.
        PawnedHours y = Check.withPeople(1);
        Check.due("feed", y.feed(0x01000203, 0x00040500, 0x06070008, 0x080009FF, 0xFF00FF00), 20);
        Check.run(y, "row 0 = 5", "rain = 2", "hour 0 0 0 = 0", "hour 0 0 2 = 2", "hour 0 1 0 = 2", "hour 0 1 2 = 4");
        Check.run(y, "hour 0 2 0 = 4", "hour 0 2 2 = 6", "hour 0 3 0 = 6", "hour 0 3 2 = 8", "hour 0 4 0 = 7");
    }

    private static void end() {
        PawnedHours x = new PawnedHours();
        Check.run(x, "end 0 = 0", "end 1 = -1", "end -1 = -1", "feed 0 0 0 0 0 = 20", "end 21 = -1", "count 5 = 20",
            "end 20 = 20", "end 7 = 7", "count 5 = 7", "end 8 = -1", "end -2147483648 = -1", "end 0 = 0",
            "count 5 = 0", "status = 0");
    }

    private static String bytes(int... values) {
        StringBuilder text = new StringBuilder();
        for (int value : values) {
            text.append((char) value);
        }
        return text.toString();
    }

    private static void row() {
        PawnedHours x = Check.withPeople(3);
        Check.tape(x, bytes(1, 2, 10, 0, 6, 99, 8, 0, 0));
        Check.run(x, "row 3 = -2", "status = -2", "count 5 = 9", "row -1 = -2", "row 0 = 3", "status = 0",
            "count 5 = 0", "rain = 0", "hour 0 0 0 = 0", "hour 0 0 1 = 2", "hour 0 0 2 = 10", "hour 0 1 0 = -1",
            "hour 0 1 1 = 6", "hour 0 1 2 = 99", "hour 0 2 0 = 7", "hour 0 2 1 = 0", "hour 0 2 2 = 0",
            "hour 0 3 2 = 1", "row 0 = -6", "status = -6", "row 5 = -2");
        PawnedHours y = Check.withPeople(1);
        Check.tape(y, bytes(9, 0, 0));
        Check.run(y, "pawn 0 0 = 1", "row 1 = -2", "count 4 = 1", "row 0 = 0", "count 4 = 0", "count 10 = 0");
    }

    private static void rowEdges() {
        PawnedHours x = Check.withPeople(3);
        // Oneself, one who isn't there, a fact, a worth that can't be; a fine one behind them keeps its hour.
        Check.tape(x, bytes(1, 2, 3, 1, 8, 3, 9, 1, 3, 1, 1, 100, 1, 255, 1, 3, 4, 5));
        Check.run(x, "put 1 0 2 50 = 1", "row 1 = 1", "rain = 5", "hour 1 0 2 = 50", "hour 1 0 0 = -1",
            "hour 1 5 0 = 2", "hour 1 5 1 = 4", "hour 1 5 2 = 5", "hour 1 3 2 = 1", "hour 1 4 0 = -1");
        PawnedHours y = Check.withPeople(1);
        for (int i = 0; i < 20; i++) {
            y.feed(0, 0, 0, 0, 0);
        }
        // 134 entries, the last one cut short, and twelve hours for them.
        Check.run(y, "row 0 = 12", "rain = 122", "hour 0 0 2 = 0", "hour 0 11 2 = 0");
        Check.tape(y, bytes(5, 0));
        Check.run(y, "row 0 = 0", "rain = 1", "hour 0 0 0 = -1");
        StringBuilder thirteen = new StringBuilder();
        for (int i = 0; i < 13; i++) {
            thirteen.append(bytes(0, 0, i));
        }
        Check.tape(y, thirteen.toString());
        Check.run(y, "row 0 = 12", "rain = 1", "hour 0 11 2 = 11", "hour 0 0 2 = 0");
    }

    private static void rain() {
        PawnedHours x = Check.withPeople(1);
        Check.tape(x, bytes(9, 9, 9, 0));
        Check.run(x, "rain = 0", "row 1 = -2", "rain = 0", "row 0 = 0", "rain = 2", "row 0 = -6", "rain = 2",
            "image 0 = 0", "back 0 = 0", "rain = 2");
        Check.tape(x, bytes(0, 0, 9));
        Check.run(x, "row 0 = 1", "rain = 0", "back 0 = 0", "rain = 0", "hour 0 0 2 = 1");
    }
}
