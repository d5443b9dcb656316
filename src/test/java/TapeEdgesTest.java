/** The boundaries of promises 9 to 12 and of rows, each by the words that name it. */
public final class TapeEdgesTest {
    public static void main(String[] args) {
        feed();
        end();
        row();
        rows();
        rain();
        Check.end();
    }

    private static String bytes(int... values) {
        StringBuilder text = new StringBuilder();
        for (int value : values) {
            text.append((char) value);
        }
        return text.toString();
    }

    private static void feed() {
        Edge.of("Twenty bytes come behind the TAPE, four of each number, the highest first: how many it has.", () -> {
            PawnedHours x = Check.withPeople(3);
            // Hours 0 to 5 in one feed, the last two bytes of it are the start of hour 6.
            Check.due("feed", x.feed(0x01020300, 0x04050206, 0x07030001, 0x04020205, 0x00060700), 20);
            Check.due("feed", x.feed(0x09000000, 0, 0, 0, 0), 40);
            Check.run(x, "end 21 = 21", "row 0 = 7", "rain = 0", "hour 0 0 0 = 0", "hour 0 0 1 = 2", "hour 0 0 2 = 3",
                "hour 0 1 0 = -1", "hour 0 1 1 = 4", "hour 0 1 2 = 5", "hour 0 2 0 = 1", "hour 0 2 1 = 6", "hour 0 2 2 = 7",
                "hour 0 3 0 = 2", "hour 0 3 1 = 0", "hour 0 3 2 = 1", "hour 0 4 0 = 3", "hour 0 4 1 = 2", "hour 0 4 2 = 2");
            Check.run(x, "hour 0 5 0 = 4", "hour 0 5 1 = 0", "hour 0 5 2 = 6", "hour 0 6 0 = 6", "hour 0 6 1 = 0", "hour 0 6 2 = 9");
            // Bytes above 127, and numbers below 0, are bytes like all others: they are no worth, no fact, nobody.
            Check.due("feed", x.feed(0x000063FF, 0x00000080, 0x00000080, -1, 0x00000080), 20);
            Check.run(x, "row 1 = 1", "rain = 6", "hour 1 0 2 = 99", "hour 1 1 0 = -1", "hour 1 1 2 = 1", "hour 1 2 2 = 1");
        });
        Edge.of("NONE, if there would be more than 400.", () -> {
            PawnedHours x = new PawnedHours();
            for (int i = 1; i <= 20; i++) {
                Check.due("feed number " + i, x.feed(-1, -1, -1, -1, -1), 20 * i);
            }
            Check.run(x, "feed 0 0 0 0 0 = -1", "count 5 = 400", "end 399 = 399", "feed 0 0 0 0 0 = -1", "count 5 = 399",
                "end 381 = 381", "feed 0 0 0 0 0 = -1", "count 5 = 381", "end 380 = 380", "feed 0 0 0 0 0 = 400",
                "feed 0 0 0 0 0 = -1", "status = 0");
        });
    }

    private static void end() {
        Edge.of("The TAPE has its first n bytes alone: n.", () -> {
            PawnedHours x = Check.withPeople(1);
            Check.due("feed", x.feed(0x01000A02, 0x000B0300, 0x0C04000D, 0, 0), 20);
            Check.run(x, "end 20 = 20", "end 6 = 6", "count 5 = 6");
            Check.due("feed", x.feed(0x05000E00, 0, 0, 0, 0), 26);
            Check.run(x, "end 9 = 9", "row 0 = 3", "hour 0 0 2 = 10", "hour 0 1 2 = 11", "hour 0 2 0 = 4", "hour 0 2 2 = 14",
                "end 0 = 0", "row 0 = -6");
        });
        Edge.of("NONE, if it has not so many, or n is below 0.", () -> {
            PawnedHours x = new PawnedHours();
            Check.run(x, "end 1 = -1", "end 0 = 0", "end -1 = -1", "feed 0 0 0 0 0 = 20", "end 21 = -1", "end -1 = -1",
                "end 2147483647 = -1", "end -2147483648 = -1", "count 5 = 20", "end 20 = 20", "end 19 = 19", "end 20 = -1",
                "count 5 = 19", "end 0 = 0", "count 5 = 0", "status = 0", "count 6 = 0");
        });
    }

    private static void row() {
        Edge.of("A ROW of a PERSON, the TAPE is empty then: how many HOURS were told.", () -> {
            PawnedHours x = Check.withPeople(2);
            Check.tape(x, bytes(1, 0, 1, 2, 0, 2, 9, 0, 3));
            Check.run(x, "row 0 = 2", "status = 0", "count 5 = 0");
            // A row of rain alone is none that can't be.
            Check.tape(x, bytes(9, 0, 3, 1));
            Check.run(x, "row 1 = 0", "status = 0", "count 5 = 0", "rain = 2");
        });
        Edge.of("-2 (the TAPE stays); -6 the TAPE is empty.", () -> {
            PawnedHours x = Check.withPeople(1);
            Check.tape(x, bytes(1, 0, 1));
            Check.run(x, "row 1 = -2", "status = -2", "count 5 = 3", "row -1 = -2", "row 6 = -2", "row 2147483647 = -2",
                "row -2147483648 = -2", "count 5 = 3", "row 0 = 1", "count 5 = 0", "row 0 = -6", "status = -6", "row 1 = -2",
                "count 7 = 6", "count 10 = 1");
        });
    }

    private static void rows() {
        Edge.of("A ROW of a PERSON: the TAPE's bytes by threes, HOURS from 0 on", () -> {
            PawnedHours x = Check.withPeople(6);
            StringBuilder text = new StringBuilder();
            for (int hour = 0; hour < 12; hour++) {
                text.append(bytes(hour % 9, hour, 99 - hour));
            }
            Check.tape(x, text.toString());
            Check.run(x, "row 5 = 12", "rain = 0");
            for (int hour = 0; hour < 12; hour++) {
                Check.due("learned in hour " + hour, x.hour(5, hour, 0), hour % 9 - 1);
                Check.due("with in hour " + hour, x.hour(5, hour, 1), hour);
                Check.due("worth of hour " + hour, x.hour(5, hour, 2), 99 - hour);
                Check.due("worth of another one's hour " + hour, x.hour(4, hour, 2), 1);
            }
            // Hours behind the row stay as they were, and so does what is pawned.
            Check.tape(x, bytes(0, 0, 7));
            Check.run(x, "pawn 5 0 = 99", "row 5 = 1", "hour 5 0 2 = 7", "hour 5 0 3 = 1", "hour 5 0 4 = 99", "hour 5 1 2 = 98");
        });
        Edge.of("LEARNED (0: NONE, else one more than the FACT), WITH (bits), WORTH", () -> {
            PawnedHours x = Check.withPeople(6);
            Check.run(x, "put 0 0 0 5 = -1");
            Check.tape(x, bytes(0, 0, 0, 1, 62, 99, 8, 2, 50));
            Check.run(x, "row 0 = 3", "hour 0 0 0 = -1", "hour 0 0 2 = 0", "hour 0 1 0 = 0", "hour 0 1 1 = 62", "hour 0 1 2 = 99",
                "hour 0 2 0 = 7", "hour 0 2 1 = 2", "hour 0 2 2 = 50");
        });
        Edge.of("one that can't be, one behind HOUR 11, one within which the TAPE ends is RAIN, and leaves its HOUR as it was.",
            () -> {
                // A fact, oneself, one who is not there, a worth that can't be: nothing of such an hour is told.
                PawnedHours x = Check.withPeople(2);
                for (int hour = 0; hour < 12; hour++) {
                    Check.due("put", x.put(1, hour, 2, 70 + hour), 1);
                }
                Check.tape(x, bytes(9, 1, 5, 1, 2, 5, 1, 4, 5, 1, 1, 100, 255, 1, 5, 1, 255, 5, 1, 1, 255, 1, 1, 5));
                Check.run(x, "row 1 = 1", "rain = 7");
                for (int hour = 0; hour < 7; hour++) {
                    Check.due("learned in hour " + hour, x.hour(1, hour, 0), -1);
                    Check.due("with in hour " + hour, x.hour(1, hour, 1), 0);
                    Check.due("worth of hour " + hour, x.hour(1, hour, 2), 70 + hour);
                }
                Check.run(x, "hour 1 7 0 = 0", "hour 1 7 1 = 1", "hour 1 7 2 = 5", "hour 1 8 2 = 78");
                // Hour 11 is told, a thirteenth entry is not, wherever it would go.
                PawnedHours y = Check.withPeople(2);
                StringBuilder text = new StringBuilder();
                for (int i = 0; i < 13; i++) {
                    text.append(bytes(0, 0, 20 + i));
                }
                Check.tape(y, text.toString());
                Check.run(y, "row 0 = 12", "rain = 1", "hour 0 0 2 = 20", "hour 0 11 2 = 31", "hour 1 0 2 = 1");
                // One byte, two bytes of an hour are none.
                Check.tape(y, bytes(3));
                Check.run(y, "row 0 = 0", "rain = 1", "hour 0 0 0 = -1");
                Check.tape(y, bytes(3, 0));
                Check.run(y, "row 0 = 0", "rain = 1", "hour 0 0 0 = -1");
                Check.tape(y, bytes(3, 0, 7, 4, 0));
                Check.run(y, "row 0 = 1", "rain = 1", "hour 0 0 0 = 2", "hour 0 1 0 = -1", "hour 0 1 2 = 21");
                // The fullest tape: 133 whole entries and one byte.
                for (int i = 0; i < 20; i++) {
                    y.feed(0, 0, 0, 0, 0);
                }
                Check.run(y, "count 5 = 400", "row 1 = 12", "rain = 122", "hour 1 11 2 = 0");
                // Thirteen entries less one byte: both reasons at once are one rain.
                Check.tape(y, bytes(0, 0, 0).repeat(12) + bytes(0, 0));
                Check.run(y, "row 1 = 12", "rain = 1");
            });
    }

    private static void rain() {
        Edge.of("How much RAIN the latest row() had that was not REFUSED (0 ahead of any).", () -> {
            PawnedHours x = Check.withPeople(1);
            Check.run(x, "rain = 0", "row 0 = -6", "rain = 0");
            Check.tape(x, bytes(9, 0, 0, 9, 0, 0, 9));
            Check.run(x, "row 1 = -2", "rain = 0", "row 0 = 0", "rain = 3", "row 0 = -6", "rain = 3", "row 9 = -2", "rain = 3");
            Check.tape(x, bytes(0, 0, 0));
            Check.run(x, "rain = 3", "row 0 = 1", "rain = 0");
        });
    }
}
