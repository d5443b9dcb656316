/** The boundaries of promises 23 to 28 and of what Terms III say of knowing and meeting, each by the words that name it. */
public final class CompanyEdgesTest {
    public static void main(String[] args) {
        knows();
        metIn();
        met();
        metByWhat();
        knowsOf();
        learned();
        deep();
        lies();
        forged();
        stray();
        Check.end();
    }

    /** All of some people were with one another in an hour. */
    private static void gather(PawnedHours x, int hour, int people) {
        for (int p = 0; p < 6; p++) {
            if ((people >> p & 1) == 1) {
                x.put(p, hour, 1, people & ~(1 << p));
            }
        }
    }

    private static void knows() {
        Edge.of("One KNOWS: of the HOURS that are HELD, one behind the other, what is LEARNED in it, if it NEEDS nothing, or what one KNOWS by an HOUR ahead of it; LEARNED it was in the first such HOUR.",
            () -> {
                // A fact in hour 11 by what was learned in hour 10, but not the other way round.
                PawnedHours x = Check.withPeople(1);
                Check.run(x, "put 0 10 0 0 = -1", "put 0 11 0 1 = -1", "needs 1 0 = -1", "of 0 4 = 3", "learned 0 1 = 11",
                    "needs 1 -1 = 0", "needs 0 1 = -1", "of 0 4 = 2", "learned 0 0 = -1", "put 0 0 0 1 = -1", "of 0 4 = 3",
                    "learned 0 0 = 10", "learned 0 1 = 0");
                // Two that need one another are never known.
                Check.run(x, "needs 1 0 = -1", "of 0 4 = 0", "needs 0 -1 = 1", "of 0 4 = 3", "learned 0 1 = 11");
                // A chain through all facts, in its order and against it.
                PawnedHours y = Check.withPeople(2);
                for (int fact = 0; fact < 8; fact++) {
                    Check.due("put", y.put(0, fact, 0, fact), -1);
                    Check.due("put", y.put(1, fact, 0, 7 - fact), -1);
                    if (fact > 0) {
                        Check.due("needs", y.needs(fact, fact - 1), -1);
                    }
                }
                Check.run(y, "of 0 4 = 255", "of 1 4 = 1", "learned 0 7 = 7", "learned 1 0 = 7", "pawn 0 3 = 1", "of 0 4 = 7",
                    "redeem 0 3 = 1", "of 0 4 = 255", "pawn 0 0 = 1", "of 0 4 = 0");
                // By hours that are held alone: neither pawned nor lost ones.
                PawnedHours z = Check.withPeople(1);
                Check.run(z, "put 0 0 0 5 = -1", "put 0 1 0 5 = -1", "learned 0 5 = 0", "terms 2 1 = 9", "pawn 0 0 = 1",
                    "learned 0 5 = 1", "pass = 1", "auction 0 0 = 1", "learned 0 5 = 1", "pawn 0 1 = 1", "learned 0 5 = -1",
                    "of 0 4 = 0");
            });
    }

    private static void metIn() {
        Edge.of("Two MET in an HOUR, if both HOLD it, and each was WITH the other one.", () -> {
            PawnedHours x = Check.withPeople(3);
            Check.run(x, "put 0 11 1 2 = 0", "met 0 1 0 = 0", "put 1 11 1 1 = 0", "met 0 1 0 = 2048", "met 1 0 0 = 2048",
                "met 0 2 0 = 0", "pawn 0 11 = 1", "met 0 1 0 = 0", "met 1 0 0 = 0", "redeem 0 11 = 1", "pawn 1 11 = 1",
                "met 0 1 0 = 0", "terms 2 1 = 9", "pass = 1", "auction 1 11 = 1", "met 0 1 0 = 0");
        });
    }

    private static void met() {
        Edge.of("NONE (the same one, for 0).", () -> {
            PawnedHours x = Check.withPeople(2);
            for (int hour = 0; hour < 12; hour++) {
                gather(x, hour, 3);
            }
            Check.run(x, "met 0 1 0 = 4095", "met 1 0 0 = 4095", "met 0 0 0 = -1", "met 1 1 0 = -1", "met 0 0 1 = 0",
                "put 0 0 0 0 = -1", "put 1 0 0 7 = -1", "met 0 0 1 = 1", "met 1 1 8 = 1", "met 1 1 1 = 0", "met 0 0 9 = -1",
                "met 0 1 9 = -1", "met 0 1 -1 = -1", "met 0 2 0 = -1", "met 2 0 0 = -1", "met -1 0 1 = -1", "met 0 -1 1 = -1",
                "met 2 2 1 = -1", "met 2147483647 0 0 = -1", "met 0 0 2147483647 = -1", "met 0 0 -2147483648 = -1");
        });
    }

    private static void metByWhat() {
        Edge.of("HOURS in which two MET, as bits (what 0); whether the first KNOWS that the second KNOWS a FACT 0 .. 7 (1 + FACT: 1, 0).", () -> {
            PawnedHours x = Check.withPeople(6);
            gather(x, 0, 48);
            gather(x, 11, 48);
            Check.run(x, "met 4 5 0 = 2049", "met 5 4 0 = 2049", "met 0 5 0 = 0", "put 5 0 0 0 = -1", "put 5 11 0 7 = -1", "put 4 1 0 0 = -1",
                "put 4 2 0 7 = -1", "met 4 5 1 = 1", "met 4 5 8 = 1", "met 5 4 1 = 0", "met 5 4 8 = 0", "met 4 5 2 = 0", "met 4 5 7 = 0",
                "met 4 5 9 = -1", "met 4 5 -1 = -1");
        });
    }

    private static void knowsOf() {
        Edge.of("A KNOWS that B KNOWS a FACT, if both KNOW it, and they are the same, or MET in the HOUR in which B LEARNED it",
            () -> {
                PawnedHours x = Check.withPeople(2);
                gather(x, 3, 3);
                Check.run(x, "put 1 3 0 2 = -1", "met 0 1 3 = 0", "met 1 1 3 = 1", "put 0 9 0 2 = -1", "met 0 1 3 = 1",
                    "met 1 0 3 = 0", "met 0 0 3 = 1", "met 0 1 2 = 0", "met 0 1 4 = 0");
                // The hour of learning is the first one: an earlier one without company takes it away.
                Check.run(x, "put 1 2 0 2 = -1", "met 0 1 3 = 0", "put 1 2 0 -1 = 2", "met 0 1 3 = 1", "pawn 0 3 = 1",
                    "met 0 1 3 = 0", "redeem 0 3 = 1", "met 0 1 3 = 1", "pawn 0 9 = 1", "met 0 1 3 = 0");
            });
    }

    private static void learned() {
        Edge.of("The HOUR in which one LEARNED a FACT one KNOWS. NONE.", () -> {
            PawnedHours x = Check.withPeople(1);
            Check.run(x, "put 0 0 0 0 = -1", "put 0 11 0 7 = -1", "learned 0 0 = 0", "learned 0 7 = 11", "learned 0 1 = -1",
                "learned 0 8 = -1", "learned 0 -1 = -1", "learned 1 0 = -1", "learned -1 0 = -1", "learned 0 2147483647 = -1",
                "learned 2147483647 0 = -1", "learned 0 31 = -1", "learned 0 32 = -1", "status = 0");
        });
    }

    private static void deep() {
        Edge.of("DEEP 1: what all PEOPLE KNOW; 2: of which all KNOW that all do; 3: of which all KNOW that all KNOW that all do.",
            () -> {
                PawnedHours one = Check.withPeople(1);
                Check.run(one, "put 0 0 0 0 = -1", "put 0 11 0 7 = -1", "deep 1 = 129", "deep 2 = 129", "deep 3 = 129");
                // Six who all learned it in one hour in which all met all.
                PawnedHours six = Check.withPeople(6);
                gather(six, 11, 63);
                for (int person = 0; person < 5; person++) {
                    Check.due("put", six.put(person, 11, 0, 4), -1);
                }
                Check.run(six, "deep 1 = 0", "put 5 11 0 4 = -1", "deep 1 = 16", "deep 2 = 16", "deep 3 = 16");
                // Two of them were not with one another: that is in each one's hour of learning.
                Check.run(six, "put 4 11 1 15 = 47", "deep 1 = 16", "deep 2 = 0", "deep 3 = 0", "put 4 11 1 47 = 15", "deep 3 = 16",
                    "pawn 5 11 = 1", "deep 1 = 0", "deep 2 = 0", "deep 3 = 0");
                // What one alone does not know, whoever that is; what one alone is not known to know.
                for (int person = 0; person < 6; person++) {
                    PawnedHours x = Check.withPeople(6);
                    gather(x, 0, 63);
                    gather(x, 1, 63 & ~(2 << person % 5));
                    for (int other = 0; other < 6; other++) {
                        x.put(other, other == person ? 1 : 0, 0, 0);
                    }
                    Check.run(x, "deep 1 = 1", "deep 2 = 0", "deep 3 = 0", "put " + person + " 0 0 0 = -1", "deep 2 = 1", "deep 3 = 1",
                        "put " + person + " 0 0 -1 = 0", "put " + person + " 1 0 -1 = 0", "deep 1 = 0");
                }
                // Each learned it in an hour of one's own, in which all the others were with that one, but not all with each other.
                PawnedHours three = Check.withPeople(3);
                Check.run(three, "put 0 0 0 1 = -1", "put 1 1 0 1 = -1", "put 2 2 0 1 = -1", "put 0 0 1 6 = 0", "put 1 0 1 1 = 0",
                    "put 2 0 1 1 = 0", "put 1 1 1 5 = 0", "put 0 1 1 2 = 0", "put 2 1 1 2 = 0", "put 2 2 1 3 = 0",
                    "put 0 2 1 4 = 0", "deep 2 = 0", "put 1 2 1 4 = 0", "deep 1 = 2", "deep 2 = 2", "deep 3 = 0");
                Check.run(three, "put 1 0 1 5 = 1", "put 2 0 1 3 = 1", "put 0 1 1 6 = 2", "put 2 1 1 3 = 2", "put 0 2 1 6 = 4",
                    "deep 3 = 0", "put 1 2 1 5 = 4", "deep 3 = 2");
            });
        Edge.of("that B KNOWS that C does, if A, B and C KNOW it, A (if not C) MET C, B (if not C) MET C, and A MET B (if they are not the same) in the HOUR in which C LEARNED it.",
            () -> {
                // C learns in hour 7, A and B ahead of it, in hours in which all met: each of the three meetings in hour 7 counts.
                for (int c = 0; c < 3; c++) {
                    PawnedHours x = Check.withPeople(3);
                    int a = (c + 1) % 3;
                    int b = (c + 2) % 3;
                    gather(x, 1, 7);
                    gather(x, 7, 7);
                    x.put(a, 1, 0, 3);
                    x.put(b, 1, 0, 3);
                    Check.run(x, "deep 1 = 0", "put " + c + " 7 0 3 = -1", "deep 1 = 8", "deep 2 = 8", "deep 3 = 8");
                    x.put(a, 7, 1, 1 << c);
                    Check.run(x, "deep 1 = 8", "deep 2 = 8", "deep 3 = 0");
                    x.put(a, 7, 1, 1 << b);
                    Check.run(x, "deep 1 = 8", "deep 2 = 0", "deep 3 = 0");
                    x.put(a, 7, 1, 1 << b | 1 << c);
                    Check.run(x, "deep 3 = 8");
                    x.pawn(b, 7);
                    Check.run(x, "deep 1 = 8", "deep 2 = 0", "deep 3 = 0");
                }
            });
        Edge.of("FACTS that are known DEEP 1 .. 3, as bits. NONE (no PEOPLE).", () -> {
            PawnedHours x = new PawnedHours();
            Check.run(x, "deep 1 = -1", "deep 2 = -1", "deep 3 = -1", "person = 0", "deep 1 = 0", "deep 2 = 0", "deep 3 = 0",
                "deep 0 = -1", "deep 4 = -1", "deep -1 = -1", "deep 2147483647 = -1", "deep -2147483648 = -1");
        });
    }

    private static void lies() {
        Edge.of("A LIE of a PERSON in an HOUR: one HOLDS it, was WITH another one, who HOLDS it, too, and was not WITH that one.",
            () -> {
                PawnedHours x = Check.withPeople(2);
                Check.run(x, "put 0 11 1 2 = 0", "lies -1 = 1", "lies 0 = 397", "put 1 11 1 1 = 0", "lies -1 = 0", "put 0 11 1 0 = 2",
                    "lies -1 = 1", "lies 0 = 402", "pawn 0 11 = 1", "lies -1 = 0", "redeem 0 11 = 1", "lies -1 = 1",
                    "pawn 1 11 = 1", "lies -1 = 0", "terms 2 1 = 9", "pass = 1", "auction 1 11 = 1", "lies -1 = 0");
            });
        Edge.of("LIES by HOURS, then who lies, then WITH whom: how many (i NONE), the i-th as HOUR times 36, who times 6, whom. NONE.",
            () -> {
                PawnedHours x = Check.withPeople(6);
                Check.run(x, "lies -1 = 0", "lies 0 = -1");
                for (int hour = 0; hour < 12; hour++) {
                    for (int person = 0; person < 6; person++) {
                        Check.due("put", x.put(person, hour, 1, 63 & -(2 << person)), 0);
                    }
                }
                // Each pair of each hour: fifteen of twelve hours.
                Check.run(x, "lies -1 = 180", "lies 0 = 1", "lies 4 = 5", "lies 5 = 8", "lies 14 = 29", "lies 15 = 37", "lies 179 = 425",
                    "lies 180 = -1", "lies -2 = -1", "lies 2147483647 = -1", "lies -2147483648 = -1");
            });
    }

    private static void forged() {
        Edge.of("FORGED: the fewest HOURS of PEOPLE that must be struck so that no LIE is left (of a LIE one of the two); by HOURS the lowest as bits of PEOPLE.",
            () -> {
                PawnedHours x = Check.withPeople(6);
                for (int hour = 0; hour < 12; hour++) {
                    for (int person = 0; person < 6; person++) {
                        x.put(person, hour, 1, 63 & -(2 << person));
                    }
                }
                // All at odds with all: all but one must go, and the highest one may stay.
                Check.run(x, "forged 0 = 31", "forged 11 = 31", "forged -1 = 60");
                // One who is at odds with all the others goes alone, also if that one is the highest, and tells the truth.
                PawnedHours y = Check.withPeople(6);
                for (int person = 0; person < 5; person++) {
                    y.put(person, 6, 1, 32);
                }
                Check.run(y, "forged 6 = 32", "forged -1 = 1", "forged 5 = 0", "forged 7 = 0");
                // A single lie: the lower of the two, whoever lies.
                PawnedHours z = Check.withPeople(6);
                Check.run(z, "forged -1 = 0", "forged 0 = 0", "put 5 0 1 16 = 0", "forged 0 = 16", "put 4 11 1 32 = 0",
                    "forged 11 = 16", "forged -1 = 2");
                for (int who = 0; who < 6; who++) {
                    for (int whom = 0; whom < 6; whom++) {
                        PawnedHours w = Check.withPeople(6);
                        w.put(who, 3, 1, 1 << whom);
                        Check.due(who + " of " + whom, w.forged(3), who == whom ? 0 : 1 << Math.min(who, whom));
                        Check.due(who + " of " + whom, w.lies(0), who == whom ? -1 : 108 + who * 6 + whom);
                    }
                }
                // A row of three lies: 0 and 2, 1 and 2, 1 and 3 would do.
                PawnedHours row = Check.withPeople(4);
                Check.run(row, "put 0 0 1 2 = 0", "put 1 0 1 4 = 0", "put 2 0 1 8 = 0", "forged 0 = 5", "forged -1 = 2");
            });
        Edge.of("FORGED: how many HOURS of PEOPLE (hour NONE), whose of an HOUR, as bits. NONE.", () -> {
            PawnedHours x = new PawnedHours();
            Check.run(x, "forged -1 = 0", "forged 0 = 0", "forged 11 = 0", "forged 12 = -1", "forged -2 = -1",
                "forged 2147483647 = -1", "forged -2147483648 = -1");
        });
    }

    private static void stray() {
        Edge.of("whose it can be: those who do not HOLD that HOUR, are not among these, and all who HOLD it were WITH that one just if they are among these.",
            () -> {
                PawnedHours x = Check.withPeople(4);
                // All hold it: nobody's.
                Check.run(x, "stray 5 0 = 0", "pawn 0 5 = 1", "stray 5 0 = 1", "stray 5 1 = 0", "stray 5 2 = 0", "put 1 5 1 1 = 0",
                    "pawn 0 5 = -3", "stray 5 2 = 1", "stray 5 0 = 0", "stray 5 6 = 0", "put 2 5 1 1 = 0", "stray 5 6 = 1",
                    "stray 5 2 = 0");
                // Each holder counts, whoever that is.
                for (int owner = 0; owner < 4; owner++) {
                    PawnedHours y = Check.withPeople(4);
                    y.pawn(owner, 0);
                    for (int other = 0; other < 4; other++) {
                        if (other != owner) {
                            Check.due("stray of " + owner + " but for " + other, y.stray(0, 1 << other), 0);
                            Check.due("put", y.put(other, 0, 1, 1 << owner), 0);
                            Check.due("stray of " + owner + " with " + other, y.stray(0, 1 << other), 1 << owner);
                            Check.due("put", y.put(other, 0, 1, 0), 1 << owner);
                        }
                    }
                }
                // One who does not hold it may be told or not.
                Check.run(x, "pawn 3 5 = 1", "stray 5 6 = 1", "stray 5 14 = 1", "stray 5 0 = 8", "stray 5 1 = 8", "stray 5 9 = 0");
                // Lost ones are not held either; without any holder all fit who are not among those told.
                Check.run(x, "terms 2 1 = 9", "pawn 1 5 = 1", "pawn 2 5 = 1", "pass = 1", "auction 2 5 = 1", "stray 5 0 = 15",
                    "stray 5 15 = 0", "stray 5 6 = 9");
            });
        Edge.of("Whose a STRAY hour WITH told PEOPLE (bits) can be, as bits. NONE.", () -> {
            PawnedHours x = Check.withPeople(6);
            for (int person = 0; person < 6; person++) {
                x.pawn(person, 11);
            }
            Check.run(x, "stray 11 0 = 63", "stray 11 63 = 0", "stray 11 31 = 32", "stray 11 64 = -1", "stray 11 -1 = -1",
                "stray 12 0 = -1", "stray -1 0 = -1", "stray 2147483647 0 = -1", "stray 11 2147483647 = -1",
                "stray 11 -2147483648 = -1");
            Check.run(new PawnedHours(), "stray 0 0 = 0", "stray 12 0 = -1", "stray 0 64 = -1");
        });
    }
}
