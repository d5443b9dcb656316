/** The boundaries of Terms IV and of promises 34 to 39, each by the words that name it. */
public final class YearsEdgesTest {
    public static void main(String[] args) {
        draws();
        eachDay();
        days();
        years();
        drawn();
        images();
        image();
        back();
        count();
        status();
        calls();
        Check.end();
    }

    private static void draws() {
        Edge.of("YEARS with a SEED, n DAYS 1 .. 60, on paper: s is the SEED (0 .. 1,000,000); a DRAW of m: s becomes (s times 1103 and 12345) modulo 1,000,003, it is s modulo m.",
            () -> {
                // 0: 12345, then 628841, which is 5 modulo 12.
                PawnedHours x = Check.withPeople(1);
                Check.run(x, "years 0 1 = 1", "drawn 0 2 = 4063", "drawn 0 0 = 6");
                // 1,000,000: 9036, then 979026, which is 6 modulo 12.
                Check.run(x, "years 1000000 1 = 1", "drawn 0 2 = 4031");
                // 12345 modulo 6 is 3, modulo 5 is 0, modulo 4 is 1, modulo 3 is 0, modulo 2 is 1.
                int[] whose = {0, 0, 1, 0, 1, 0, 3};
                for (int people = 1; people <= 6; people++) {
                    PawnedHours y = Check.withPeople(people);
                    Check.run(y, "years 0 1 = 1");
                    for (int person = 0; person < people; person++) {
                        Check.due("drawn(" + person + ", 2) of " + people, y.drawn(person, 2),
                            person == whose[people] ? 4063 : 4095);
                        Check.due("drawn(" + person + ", 0) of " + people, y.drawn(person, 0), person == whose[people] ? 6 : 5);
                    }
                }
                Check.run(x, "years -1 1 = -1", "years 1000001 1 = -1", "years 0 0 = -1", "years 0 61 = -1", "years 0 60 = 33");
            });
    }

    private static void eachDay() {
        Edge.of("Each DAY DRAWS of PEOPLE, of 12 (HOUR)", () -> {
            // Of two people and twelve hours: 1 and 5, then 1 and 1, then 0 and 10.
            long s = 0;
            int[] due = {12345, 628841, 621889, 953857, 113460, 158350};
            for (int i = 0; i < 6; i++) {
                s = (s * 1103 + 12345) % 1_000_003;
                Check.due("draw " + i, s, due[i]);
            }
            PawnedHours x = Check.withPeople(2);
            Check.run(x, "years 0 1 = 1", "drawn 0 2 = 4095", "drawn 1 2 = 4063", "years 0 2 = 2", "drawn 0 2 = 4095", "drawn 1 2 = 4061",
                "years 0 3 = 3", "drawn 0 2 = 3071", "drawn 1 2 = 4061", "drawn 1 0 = 17", "drawn 0 0 = 16");
        });
    }

    private static void days() {
        Edge.of("if it is HELD and not BARRED, it is pawned, if it is PAWNED, it is redeemed, if it can be; then it is the next DAY (behind 999 it ends there).",
            () -> {
                // Hour 5 is drawn: held, barred, pawned with too little and with enough, lost.
                PawnedHours x = Check.withPeople(1);
                Check.law(x, "bars if hour=5", 0);
                Check.run(x, "force 0 = -1", "years 0 1 = 0", "drawn 0 2 = 4095", "drawn 0 0 = 5", "force -1 = 0", "put 0 5 2 9 = 1",
                    "pawn 0 5 = 9", "give 0 8 = 9", "years 0 1 = 0", "drawn 0 2 = 4063", "drawn 0 0 = 13", "give 0 9 = 8",
                    "years 0 1 = 0", "drawn 0 2 = 4095", "drawn 0 0 = 5", "force 0 = -1", "years 0 1 = 0", "drawn 0 2 = 4095");
                Check.run(x, "terms 2 1 = 9", "pass = 1", "auction 0 5 = 9", "force -1 = 0", "give 0 0 = 14", "years 0 1 = 0",
                    "drawn 0 2 = 4063", "drawn 0 0 = 5");
                // On day 999 one draw is left, on day 998 two of them and one day's income.
                PawnedHours y = Check.withPeople(1);
                Check.run(y, "terms 0 999 = 0", "years 0 1 = 1", "drawn 0 0 = 1", "years 0 60 = 1", "drawn 0 0 = 1", "drawn 0 2 = 4063",
                    "terms 0 998 = 999", "years 0 1 = 1", "drawn 0 0 = 6", "years 0 2 = 2", "drawn 0 0 = 7", "years 0 60 = 2",
                    "drawn 0 0 = 7", "count 12 = 998");
                // Purses end at the most on paper, too.
                Check.run(y, "terms 0 0 = 998", "give 0 99999 = 0", "years 0 1 = 1", "drawn 0 0 = 99999", "give 0 99993 = 99999",
                    "years 0 1 = 1", "drawn 0 0 = 99999", "give 0 99992 = 99993", "years 0 1 = 1", "drawn 0 0 = 99998");
            });
    }

    private static void years() {
        Edge.of("YEARS, kept as the latest: how many were pawned. -1; -3 there are no PEOPLE.", () -> {
            PawnedHours x = new PawnedHours();
            Check.run(x, "years 0 1 = -3", "status = -3", "years 1000000 60 = -3", "years 0 0 = -1", "status = -1", "years 0 61 = -1",
                "years 0 -1 = -1", "years -1 1 = -1", "years 1000001 1 = -1", "years 2147483647 1 = -1", "years -2147483648 1 = -1",
                "years 0 2147483647 = -1", "years 0 -2147483648 = -1", "count 6 = 9", "count 8 = 2", "person = 0", "years 0 1 = 1",
                "status = 0", "years 1000000 60 = 33");
            // On paper: nothing of it stays but what drawn() tells.
            Check.run(x, "of 0 0 = 0", "of 0 1 = 12", "count 12 = 0", "count 1 = 0", "count 4 = 0", "undo = -3");
        });
    }

    private static void drawn() {
        Edge.of("Of a PERSON behind the latest YEARS PURSE (what 0), what one KNOWS (1), HOURS that are HELD, as bits (2). NONE.",
            () -> {
                PawnedHours x = Check.withPeople(2);
                Check.run(x, "drawn 0 0 = -1", "drawn 0 1 = -1", "drawn 0 2 = -1", "put 1 5 0 7 = -1", "put 1 4 0 0 = -1", "years 0 1 = 1",
                    "drawn 1 1 = 1", "drawn 1 2 = 4063", "drawn 1 0 = 6", "drawn 0 1 = 0", "drawn 0 0 = 5", "drawn 0 3 = -1",
                    "drawn 0 -1 = -1", "drawn 2 0 = -1", "drawn -1 0 = -1", "drawn 2147483647 0 = -1", "drawn 0 2147483647 = -1",
                    "of 1 4 = 129");
                // What was learned in the first hour counts, as in all others.
                PawnedHours y = Check.withPeople(1);
                Check.run(y, "put 0 0 0 2 = -1", "put 0 11 0 7 = -1", "years 0 1 = 1", "drawn 0 1 = 132");
                // A refused call leaves the latest ones; the next ones take their place.
                Check.run(x, "years 0 0 = -1", "drawn 1 2 = 4063", "years -1 1 = -1", "drawn 1 0 = 6", "person = 2", "drawn 2 0 = -1",
                    "drawn 1 2 = 4063", "years 0 1 = 1", "drawn 2 0 = 5", "drawn 1 2 = 4095", "drawn 0 2 = 4063");
            });
    }

    private static void images() {
        Edge.of("IMAGES 0, 1 keep all but the TAPE, FAULT, RAIN, where ORDERS stopped, what can be undone (nothing, behind back()), the latest YEARS; BACK to one all that it keeps is as it was then (IMAGES stay).",
            () -> {
                PawnedHours x = Check.withPeople(2);
                Check.law(x, "lends 5", 0);
                Check.run(x, "force 0 = -1", "put 0 1 0 3 = -1", "put 0 1 1 2 = 0", "put 0 1 2 9 = 1", "needs 3 4 = -1", "bid 1 3 7 = 0",
                    "terms 1 6 = 5", "terms 2 1 = 9", "terms 3 7 = 3", "terms 4 8 = 0", "give 1 50 = 0", "pawn 0 2 = 5", "pawn 1 3 = 5",
                    "pass = 1", "auction 1 3 = 5", "image 1 = 0");
                // All is changed, and the street has somebody more.
                Check.law(x, "bars", 1);
                Check.run(x, "force 1 = 0", "person = 2", "put 0 1 0 6 = 3", "put 0 1 1 6 = 2", "put 0 1 2 2 = 9", "needs 3 5 = 4",
                    "bid 1 3 8 = 7", "bid 2 0 9 = 0", "terms 1 0 = 6", "terms 2 99 = 1", "terms 3 0 = 7", "terms 4 0 = 8",
                    "give 1 1 = 61", "redeem 0 2 = 6", "pass = 2");
                // What images do not keep, as it is by now.
                Check.tape(x, "" + (char) 9);
                Check.run(x, "row 0 = 0", "rain = 1");
                Check.orders(x, "pass;pawn 99 of 0", -3);
                Check.law(x, "?", -6);
                Check.run(x, "feed 0 0 0 0 0 = 20", "end 7 = 7", "years 0 1 = 0", "pass = 3", "count 4 = 1", "fault = 0", "stopped = 1");
                int purse = x.drawn(1, 0);
                int refusals = x.count(10);
                Check.run(x, "back 1 = 0", "count 0 = 2", "count 3 = 1", "count 11 = 0", "hour 0 1 0 = 3", "hour 0 1 1 = 2", "hour 0 1 2 = 9",
                    "sale 4 = 1", "sale 0 = 7", "count 12 = 1", "count 13 = 6", "count 14 = 1", "count 15 = 7", "count 16 = 8",
                    "of 0 0 = 11", "of 1 0 = 61", "hour 0 2 3 = 1", "hour 0 2 4 = 5", "hour 0 2 5 = 1", "hour 1 3 3 = 2", "count 1 = 1",
                    "count 2 = 1", "of 2 0 = -1", "hour 0 0 6 = 5", "force 1 = -2", "needs 3 4 = 4");
                Check.run(x, "count 4 = 0", "undo = -3", "count 5 = 7", "rain = 1", "fault = 0", "stopped = 1");
                Check.due("drawn(1, 0) behind back", x.drawn(1, 0), purse);
                Check.due("count(10) behind back", x.count(10), refusals);
                // Images stay: the same one again, and the other one was never kept.
                Check.run(x, "give 0 77 = 11", "back 1 = 0", "of 0 0 = 11", "back 0 = -2", "image 0 = 0", "give 0 78 = 11", "image 1 = 0",
                    "give 0 79 = 78", "back 0 = 0", "of 0 0 = 11", "back 1 = 0", "of 0 0 = 78", "back 0 = 0", "of 0 0 = 11");
                // Who comes behind it is somebody new.
                Check.run(x, "person = 2", "of 2 0 = 0", "of 2 1 = 12", "bid 2 0 0 = 0", "hour 2 0 2 = 1");
            });
        Edge.of("BACK to one all that it keeps is as it was then", () -> {
            // The last hour of the last person, the last law, the last bid, the last fact.
            PawnedHours x = Check.withPeople(6);
            for (int law = 0; law < 6; law++) {
                Check.law(x, "lends 20+" + law, law);
            }
            Check.run(x, "put 5 11 0 7 = -1", "put 5 11 1 31 = 0", "put 5 11 2 98 = 1", "force 5 = -1", "needs 7 0 = -1", "bid 5 3 999 = 0",
                "give 5 9 = 0", "pawn 5 11 = 25", "terms 0 3 = 0", "image 0 = 0");
            Check.run(x, "put 5 11 0 -1 = 7", "put 5 11 1 0 = 31", "put 5 11 2 1 = 98", "force 0 = 5", "needs 7 -1 = 0", "bid 5 3 0 = 999",
                "redeem 5 11 = 28", "give 5 0 = 6", "pass = 4", "pawn 5 11 = 20", "back 0 = 0");
            Check.run(x, "hour 5 11 0 = 7", "hour 5 11 1 = 31", "hour 5 11 2 = 98", "count 11 = 5", "hour 0 0 6 = 25", "needs 7 0 = 0",
                "bid 5 3 999 = 999", "hour 5 11 3 = 1", "hour 5 11 4 = 25", "hour 5 11 5 = 3", "of 5 0 = 34", "count 12 = 3", "count 3 = 6");
            // Every hour of everybody: pawned then and held since, held then and pawned since.
            PawnedHours y = Check.withPeople(6);
            for (int place = 0; place < 72; place += 2) {
                y.pawn(place / 12, place % 12);
            }
            Check.run(y, "image 1 = 0");
            for (int place = 0; place < 72; place++) {
                Check.due("what is lent or paid", place % 2 == 0 ? y.redeem(place / 12, place % 12) : y.pawn(place / 12, place % 12), 1);
            }
            Check.run(y, "back 1 = 0", "count 1 = 36");
            for (int place = 0; place < 72; place++) {
                Check.due("hour " + place % 12 + " of " + place / 12, y.hour(place / 12, place % 12, 3), 1 - place % 2);
                Check.due("its loan", y.hour(place / 12, place % 12, 4), place % 2 == 0 ? 1 : -1);
            }
        });
        Edge.of("what can be undone (nothing, behind back())", () -> {
            PawnedHours x = Check.withPeople(1);
            Check.run(x, "pass = 1", "image 0 = 0", "count 4 = 1", "pass = 2", "count 4 = 2", "back 0 = 0", "count 4 = 0", "undo = -3",
                "count 12 = 1", "pass = 2", "undo = 2", "undo = -3", "count 12 = 1");
            // An image of an empty street is one, too.
            PawnedHours y = new PawnedHours();
            Check.run(y, "image 0 = 0", "person = 0", "pass = 1", "back 0 = 0", "count 0 = 0", "count 12 = 0", "deep 1 = -1");
        });
    }

    private static void image() {
        Edge.of("`int image(int k)`: IMAGE k is kept: 0; -1.", () -> {
            PawnedHours x = new PawnedHours();
            Check.run(x, "image 2 = -1", "status = -1", "image -1 = -1", "image 2147483647 = -1", "image -2147483648 = -1", "image 1 = 0",
                "status = 0", "back 0 = -2", "image 0 = 0", "back 0 = 0", "pass = 1", "image 0 = 0", "back 1 = 0", "count 12 = 0",
                "back 0 = 0", "count 12 = 1", "count 6 = 4");
        });
    }

    private static void back() {
        Edge.of("BACK to IMAGE k: 0. -1; -2 it was not kept.", () -> {
            PawnedHours x = new PawnedHours();
            Check.run(x, "back 0 = -2", "status = -2", "back 1 = -2", "back 2 = -1", "status = -1", "back -1 = -1", "back 2147483647 = -1",
                "back -2147483648 = -1", "pass = 1", "image 0 = 0", "pass = 2", "back 1 = -2", "count 12 = 2", "count 4 = 2",
                "back 0 = 0", "status = 0", "count 12 = 1", "count 6 = 4", "count 7 = 3");
        });
    }

    private static void count() {
        Edge.of("0 PEOPLE, 1 how many HOURS are PAWNED, 2 LOST, 3 LAWS, 4 how many can be undone, 5 bytes of the TAPE, 6 .. 10 how many calls were REFUSED by -1, -2, -3, -5, -6 (IMAGES do not keep that), 11 the LAW in FORCE, 12 .. 16 TERMS 0 .. 4. NONE for others.",
            () -> {
                PawnedHours x = Check.withPeople(6);
                Check.run(x, "count 0 = 6", "count 17 = -1", "count -1 = -1", "count 2147483647 = -1", "count -2147483648 = -1");
                Check.run(x, "terms 2 1 = 9");
                for (int person = 0; person < 6; person++) {
                    for (int hour = 0; hour < 12; hour++) {
                        x.pawn(person, hour);
                    }
                }
                Check.run(x, "count 1 = 72", "count 2 = 0", "count 4 = 16", "pass = 1");
                for (int person = 0; person < 6; person++) {
                    for (int hour = 0; hour < 12; hour++) {
                        x.auction(person, hour);
                    }
                }
                Check.run(x, "count 1 = 0", "count 2 = 72", "count 4 = 16");
                Check.law(x, "bars", 0);
                Check.run(x, "count 3 = 1", "count 11 = -1", "force 0 = -1", "count 11 = 0", "feed 0 0 0 0 0 = 20", "count 5 = 20", "end 1 = 1",
                    "count 5 = 1", "count 12 = 1", "count 13 = 5", "count 14 = 1", "count 15 = 3", "count 16 = 0");
                // One by one: each of the five reasons by itself.
                Check.run(x, "count 6 = 0", "image 2 = -1", "count 6 = 1", "count 7 = 0", "back 0 = -2", "count 7 = 1", "count 8 = 0",
                    "pawn 0 0 = -3", "count 8 = 1", "count 9 = 0", "person = -5", "count 9 = 1", "count 10 = 0", "end 0 = 0", "row 0 = -6",
                    "law = -6", "orders = -6", "count 10 = 3", "count 6 = 1", "count 7 = 1", "count 8 = 1", "count 9 = 1");
                // Images do not keep that; questions are not refused, nor are feed() and end().
                Check.run(x, "image 0 = 0", "image 2 = -1", "person = -5", "back 0 = 0", "count 6 = 2", "count 9 = 2", "hour 9 9 9 = -1",
                    "of 9 9 = -1", "end 999 = -1", "met 9 9 9 = -1", "learned 9 9 = -1", "deep 9 = -1", "lies 999 = -1", "forged 99 = -1",
                    "stray 99 99 = -1", "raise 9 9 9 9 = -1", "cheapest 9 9 = -1", "sale 99 = -1", "lasting 9 9 9 = -1", "drawn 9 9 = -1",
                    "count 99 = -1", "count 6 = 2", "count 7 = 1", "count 8 = 1", "count 9 = 2", "count 10 = 3");
            });
    }

    private static void status() {
        Edge.of("What the latest call of person, put, give, needs, terms, row, law, orders, force, pawn, redeem, pass, auction, undo, bid, years, image, back was REFUSED by; 0 if it was not, or ahead of any.",
            () -> {
                Check.run(new PawnedHours(), "status = 0", "of 0 0 = -1", "end 1 = -1", "status = 0");
                // Each one that goes well takes away what was refused ahead of it.
                String[] fine = {"person = 1", "put 0 0 0 0 = -1", "give 0 0 = 1", "needs 0 1 = -1", "terms 4 1 = 0", "row 0 = 6",
                    "force -1 = -1", "pawn 0 0 = 1", "redeem 0 11 = 1", "pass = 1", "undo = 0", "bid 0 0 1 = 0", "years 0 1 = 1",
                    "image 1 = 0", "back 0 = 0"};
                for (String call : fine) {
                    PawnedHours x = Check.withPeople(1);
                    Check.run(x, "image 0 = 0", "pawn 0 11 = 1", "feed 0 0 0 0 0 = 20", "end 18 = 18", "back 1 = -2", "status = -2", call,
                        "status = 0");
                }
                PawnedHours texts = Check.withPeople(1);
                Check.run(texts, "back 1 = -2");
                Check.law(texts, "bars", 0);
                Check.run(texts, "status = 0", "back 1 = -2");
                Check.orders(texts, "pass", 1);
                Check.run(texts, "status = 0");
                // Each one that is refused tells by what.
                String[] refused = {"person = -5", "put 0 12 0 0 = -1", "give 0 -1 = -1", "needs 0 0 = -1", "terms 5 0 = -1", "row 0 = -6",
                    "law = -6", "orders = -6", "force 0 = -2", "pawn 0 12 = -1", "redeem 0 0 = -3", "pass = -3", "auction 0 0 = -3",
                    "undo = -3", "bid 0 4 0 = -1", "years 0 0 = -1", "image 2 = -1", "back 0 = -2"};
                for (String call : refused) {
                    PawnedHours x = Check.withPeople(6);
                    Check.run(x, "terms 0 999 = 0", "status = 0", call, "status = " + call.substring(call.indexOf('=') + 2));
                }
                // Questions and the tape leave it as it is.
                String[] others = {"hour 9 9 9 = -1", "of 9 0 = -1", "feed 0 0 0 0 0 = 20", "end 999 = -1", "rain = 0", "fault = -1",
                    "stopped = -1", "met 9 9 9 = -1", "learned 9 9 = -1", "deep 9 = -1", "lies 9 = -1", "forged 99 = -1", "stray 99 0 = -1",
                    "raise 9 9 9 9 = -1", "cheapest 9 9 = -1", "sale 0 = 0", "lasting 9 9 9 = -1", "drawn 9 9 = -1", "count 99 = -1"};
                for (String call : others) {
                    PawnedHours x = Check.withPeople(1);
                    Check.run(x, "back 0 = -2", call, "status = -2", "pass = 1", call.startsWith("feed") ? "end 20 = 20" : call, "status = 0");
                }
            });
    }

    private static void calls() {
        Edge.of("An object is used for at most 512 calls after it has been made", () -> {
            PawnedHours x = new PawnedHours();
            x.person();
            for (int call = 2; call <= 500; call++) {
                Check.due("call " + call, x.pass(), call - 1);
            }
            Check.run(x, "of 0 0 = 2495", "image 1 = 0", "undo = 2", "count 12 = 498", "back 1 = 0", "count 12 = 499", "pawn 0 11 = 1",
                "pass = 500", "hour 0 11 5 = 1", "redeem 0 11 = 2", "undo = 1", "status = 0");
        });
    }
}
