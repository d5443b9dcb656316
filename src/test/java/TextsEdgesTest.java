/** The boundaries of Terms II and of promises 13 to 17, each by the words that name it. */
public final class TextsEdgesTest {
    public static void main(String[] args) {
        tokens();
        limits();
        faults();
        broken();
        joined();
        clauses();
        laws();
        whatLawsTell();
        words();
        textsAlone();
        ordersAsRead();
        ordersAsRun();
        ordersThatCannotBe();
        law();
        orders();
        fault();
        stopped();
        force();
        Check.end();
    }

    /** A law whose fault's place is told; -1: it has none. */
    private static void lawFault(String text, int place) {
        PawnedHours x = new PawnedHours();
        Check.law(x, text, place < 0 ? 0 : -6);
        Check.due("fault() of " + text, x.fault(), place);
        Check.due("laws behind " + text, x.count(3), place < 0 ? 1 : 0);
    }

    /** The same of orders, which are read whether they can be run or not. */
    private static void ordersFault(String text, int place) {
        PawnedHours x = new PawnedHours();
        Check.tape(x, text);
        long answer = x.orders();
        Check.due("orders() of " + text + " could not be read", answer == -6 ? 1 : 0, place < 0 ? 0 : 1);
        Check.due("fault() of " + text, x.fault(), place);
    }

    private static PawnedHours ruledBy(String law) {
        PawnedHours x = Check.withPeople(1);
        Check.law(x, law, 0);
        Check.due("force(0)", x.force(0), -1);
        return x;
    }

    /** What an hour of worth 1 lends by a sum; 1, if it is broken. */
    private static void lends(String sum, int want) {
        Check.due("what lends " + sum, ruledBy("lends " + sum).hour(0, 0, 6), want);
    }

    /** Whether a test holds; a broken one does not. */
    private static void holds(String test, int want) {
        Check.due("whether " + test, ruledBy("bars if " + test).hour(0, 0, 8), want);
    }

    private static void tokens() {
        Edge.of("TEXTS are on a TAPE of at most 400 bytes.", () -> {
            lawFault("lends 1" + " ".repeat(393), -1);
            lawFault(" ".repeat(393) + "lends 7", -1);
            lawFault(" ".repeat(394) + "lends ", 400);
            lawFault("lends " + "0".repeat(393) + "7", -1);
            lawFault("lends 1" + " ".repeat(392) + "2", 399);
            lawFault("a".repeat(400), 0);
            lawFault(";".repeat(400), 0);
            lawFault("bars" + ";".repeat(396), 5);
        });
        Edge.of("TOKENS: longest rows of letters a .. z, of digits, single other bytes, any blanks (32) between.", () -> {
            lawFault("lends1", -1);
            lawFault("lends1if1=1or1=1", -1);
            lawFault("lends 1 0", 8);
            lawFault("lend s 1", 0);
            lawFault("lendsworth", 0);
            lawFault("lendsz 1", 0);
            lawFault("lendsa 1", 0);
            lawFault("lends 09", -1);
            lawFault("lends 90", -1);
            lawFault("lends wor th", 6);
            lawFault("  lends   [ 1 ]   ;   bars   ", -1);
            lawFault("lends\t1", 5);
            lawFault("lends 1\n", 7);
            lawFault("lends 1\0", 7);
            lawFault("lends 1" + (char) 160, 7);
            lawFault("lends " + (char) 255, 6);
            lawFault("LENDS 1", 0);
            lawFault("lends Worth", 6);
            lawFault("lends 1`", 7);
            lawFault("lends 1{", 7);
            lawFault("lends 1/", 8);
            lawFault("lends 1:", 7);
            lawFault("bars if 1<=2", 10);
        });
    }

    private static void limits() {
        Edge.of("CLAUSE {\";\" CLAUSE}, 12 at most (FAULT at the 13th's first TOKEN).", () -> {
            lawFault("bars;".repeat(11) + "bars", -1);
            lawFault("bars;".repeat(12) + "bars", 60);
            lawFault("bars;".repeat(12) + "  bars", 62);
            lawFault("bars;".repeat(12) + "bars;bars", 60);
            lawFault("bars;".repeat(12), 60);
            lawFault("bars;".repeat(12) + ";", 60);
            lawFault("bars;".repeat(11), 55);
            lawFault("bars", -1);
            lawFault("bars;", 5);
            ordersFault("pass;".repeat(11) + "pass", -1);
            ordersFault("pass;".repeat(12) + "pass", 60);
        });
        Edge.of("NUMBER (to 1,000)", () -> {
            lawFault("lends 1000", -1);
            lawFault("lends 1001", 6);
            lawFault("lends 0", -1);
            lawFault("lends 1+1001", 8);
            lawFault("lends 4294967297", 6);
            lawFault("lends 18446744073709551617", 6);
            lawFault("bars if 1000=1001", 13);
            ordersFault("pass if now<1000", -1);
            ordersFault("pass if now<1001", 12);
        });
        Edge.of("50 PARTS that are NUMBERS and words (FAULT at the 51st)", () -> {
            lawFault("lends 1" + "+1".repeat(49), -1);
            lawFault("lends 1" + "+1".repeat(50), 106);
            lawFault("lends [1]" + "+[1]".repeat(49), -1);
            lawFault("lends 1" + "+1".repeat(49) + "+[mood]", 107);
            lawFault("lends mood" + "+with".repeat(49), -1);
            lawFault("lends mood" + "+with".repeat(50), 256);
            // In all clauses together.
            lawFault("lends 1" + "+1".repeat(24) + ";bars if 1" + "+1".repeat(23) + "=1", -1);
            lawFault("lends 1" + "+1".repeat(24) + ";bars if 1" + "+1".repeat(24) + "=1", 114);
            ordersFault("pass if 1" + "+1".repeat(48) + "=now", -1);
            ordersFault("pass if 1" + "+1".repeat(49) + "=now", 108);
        });
        Edge.of("8 brackets of both kinds within one another (FAULT at the 9th) at most.", () -> {
            lawFault("lends " + "[".repeat(8) + "1" + "]".repeat(8), -1);
            lawFault("lends " + "[".repeat(9) + "1" + "]".repeat(9), 14);
            lawFault("bars if " + "(".repeat(8) + "1=1" + ")".repeat(8), -1);
            lawFault("bars if " + "(".repeat(9) + "1=1" + ")".repeat(9), 16);
            lawFault("bars if ((((1=[[[[1]]]]))))", -1);
            lawFault("bars if ((((1=[[[[[1]]]]]))))", 18);
            lawFault("bars if (((((1=[[[[1]]]])))))", 18);
            lawFault("bars if (((1=1)))and((((([[[1]]]=1)))))", -1);
            lawFault("lends [[[[[[[[1]]]]]]]]+[[[[[[[[1]]]]]]]]", -1);
            ordersFault("pawn " + "[".repeat(8) + "1" + "]".repeat(8) + " of 0", -1);
            ordersFault("pawn " + "[".repeat(9) + "1" + "]".repeat(9) + " of 0", 13);
        });
    }

    private static void faults() {
        Edge.of("FAULT: the first TOKEN that can't go on there (the end's: the TEXT's length).", () -> {
            lawFault("lends", 5);
            lawFault("lends   ", 8);
            lawFault("lends 1+", 8);
            lawFault("lends 1+ ", 9);
            lawFault("lends [1", 8);
            lawFault("bars if", 7);
            lawFault("bars if 1", 9);
            lawFault("bars if 1=", 10);
            lawFault("bars if not", 11);
            lawFault("bars if (1=1", 12);
            lawFault("bars if 1=1 and", 15);
            lawFault("bars if 1=1 or", 14);
            lawFault("lends 1 lends 1", 8);
            lawFault("lends (1)", 6);
            lawFault("lends 1]", 7);
            lawFault("lends -1", 6);
            lawFault("lends 1 times 2", 8);
            lawFault("lends now", 6);
            lawFault("pass", 0);
            lawFault("bars 1", 5);
            lawFault("bars if 1=1=1", 11);
            lawFault("bars if (1)", 10);
            lawFault("bars if [1=1]", 10);
            lawFault("bars if (1=1]", 12);
            lawFault("bars if 1=1 not 1=1", 12);
            ordersFault("pawn 1", 6);
            ordersFault("pawn 1 of", 9);
            ordersFault("pawn 1 to 0", 7);
            ordersFault("pass times", 10);
            ordersFault("pass if 1=1 times 2", 12);
            ordersFault("pass of 0", 5);
            ordersFault("pawn purse of 0", 11);
            ordersFault("pawn knows 0 of 0", 13);
            ordersFault("pawn worth of 0", 5);
            ordersFault("bars", 0);
        });
    }

    private static void broken() {
        Edge.of("Beyond 1,000,000,000 either way, or divided by 0 (/ cut towards 0, % what is left then), a SUM, a TEST is BROKEN",
            () -> {
                lends("1000*1000*1000", 999);
                lends("1000*1000*1000+0", 999);
                lends("1000*1000*1000+1", 1);
                lends("0-1000*1000*1000", 0);
                lends("0-1000*1000*1000-1", 1);
                lends("1000*1000*999+1000*1000-999", 999);
                lends("5+[1000*1000*1000+1]*0", 1);
                lends("0-1000*1000*1000*1000*1000*1000*1000*1000*1000", 1);
                lends("7/0", 1);
                lends("7%0", 1);
                lends("0/0", 1);
                lends("7/[worth-1]", 1);
                lends("7/2", 3);
                lends("10+[0-7]/2", 7);
                lends("10+7/[0-2]", 7);
                lends("10+[0-7]/[0-2]", 13);
                lends("7%2", 1);
                lends("10+[0-7]%4", 7);
                lends("10+7%[0-4]", 13);
                lends("10+[0-7]%[0-4]", 7);
                holds("1000*1000*1000=1000*1000*1000", 1);
                holds("1000*1000*1000+1>0", 0);
                holds("not 1000*1000*1000+1>0", 0);
                holds("1/0=1/0", 0);
                holds("not (not 1/0=1)", 0);
                holds("not (not 1=1)", 1);
                holds("not not not 1=2", 1);
                holds("not not not 1=1", 0);
            });
        Edge.of("(\"or\", \"and\" ask what stands behind only if it can still matter)", () -> {
            holds("1=1 or 1/0=1", 1);
            holds("1=2 or 1/0=1", 0);
            holds("not (1=2 or 1/0=1)", 0);
            holds("1=2 and 1/0=1", 0);
            holds("not (1=2 and 1/0=1)", 1);
            holds("not (1=1 and 1/0=1)", 0);
            holds("1/0=1 or 1=1", 0);
            holds("not (1/0=1 and 1=2)", 0);
            holds("1=1 or 1/0=1 or 1/0=1", 1);
            holds("1=2 and 1/0=1 and 1/0=1 or 1=1", 1);
            holds("1=1 or 1=1 and 1/0=1", 1);
            holds("(1=1 or 1/0=1) and 1=1", 1);
            holds("(1=1 or 1/0=1) and 1/0=1", 0);
        });
    }

    private static void joined() {
        Edge.of("TEST: BOTH {\"or\" BOTH}. BOTH: PLAIN {\"and\" PLAIN}. PLAIN: \"not\" PLAIN | \"(\" TEST \")\" | SUM (\"<\" | \">\" | \"=\") SUM.", () -> {
            holds("1=1 or 1=1 and 1=2", 1);
            holds("(1=1 or 1=1) and 1=2", 0);
            holds("1=2 and 1=1 or 1=1", 1);
            holds("1=2 and (1=1 or 1=1)", 0);
            holds("1=2 or 1=2 or 1=1", 1);
            holds("1=1 and 1=1 and 1=2", 0);
            holds("not 1=2 and 1=2", 0);
            holds("not (1=2 and 1=2)", 1);
            holds("not 1=1 or 1=1", 1);
            holds("not not 1=1", 1);
            holds("1<2", 1);
            holds("2<2", 0);
            holds("2>1", 1);
            holds("2>2", 0);
            holds("2=2", 1);
            holds("0-1<0", 1);
            holds("0-1=1", 0);
            holds("1+1=2*1", 1);
        });
        Edge.of("SUM: TERM {(\"+\" | \"-\") TERM}. TERM: PART {(\"*\" | \"/\" | \"%\") PART}. PART: NUMBER (to 1,000) | \"[\" SUM \"]\" | a word, as told.", () -> {
            lends("10-3-2", 5);
            lends("10-[3-2]", 9);
            lends("2+3*4", 14);
            lends("[2+3]*4", 20);
            lends("100/10/2", 5);
            lends("100/[10/2]", 20);
            lends("100%7*2", 4);
            lends("100*7%3", 1);
            lends("2-3*0", 2);
            lends("[[[worth]]]", 1);
            lends("0", 0);
            // The longest sums that can be.
            lends("1" + "+1".repeat(49), 50);
            lends("100" + "-1".repeat(49), 51);
            lends("7" + "*1".repeat(49), 7);
            lends("1+[1+[1+[1+[1+[1+[1+[1+[1]]]]]]]]", 9);
        });
    }

    private static void clauses() {
        Edge.of("CLAUSE: ((\"lends\" | \"costs\") SUM | \"bars\") [\"if\" TEST].", () -> {
            lawFault("lends 1;costs 1;bars;lends 1 if 1=1;costs 1 if 1=1;bars if 1=1", -1);
            lawFault("lends if 1=1", 6);
            lawFault("costs", 5);
            lawFault("costs bars", 6);
            lawFault("bars 1", 5);
            lawFault("if 1=1", 0);
            lawFault("bars if 1=1 if 1=1", 12);
            lawFault("lends 1 costs 1", 8);
            lawFault("lends 1 of 1", 8);
        });
        Edge.of("CLAUSE: (\"pawn\" SUM \"of\" SUM | \"redeem\" SUM \"of\" SUM | \"pass\") [\"times\" TIMES] [\"if\" TEST]. (an HOUR, a PERSON; pass: a DAY.)", () -> {
            ordersFault("pawn 1 of 0;redeem 1 of 0;pass;pawn 1 of 0 times 2;redeem 1 of 0 if 1=1;pass times 2 if 1=1", -1);
            ordersFault("pawn of 0", 5);
            ordersFault("pawn 1 of 0 of 0", 12);
            ordersFault("redeem 1", 8);
            ordersFault("redeem 1 of", 11);
            ordersFault("pass 1", 5);
            ordersFault("pass times 2 times 2", 13);
            ordersFault("pass if 1=1 if 1=1", 12);
            ordersFault("auction 1 of 0", 0);
            ordersFault("times 2", 0);
            // The first sum is the hour, the second one the person.
            PawnedHours x = Check.withPeople(6);
            Check.orders(x, "pawn 11 of 5;pawn 5 of 4", 2);
            Check.run(x, "hour 5 11 3 = 1", "hour 4 5 3 = 1", "hour 5 4 3 = 0", "count 1 = 2");
            Check.orders(x, "redeem 11 of 5;pass", 2);
            Check.run(x, "hour 5 11 3 = 0", "hour 4 5 3 = 1", "count 12 = 1");
            Check.orders(x, "pawn 5 of 11", -3);
        });
    }

    private static void laws() {
        Edge.of("LAWS, 6 at most", () -> {
            PawnedHours x = Check.withPeople(1);
            for (int law = 0; law < 6; law++) {
                Check.law(x, "lends 10+" + law, law);
            }
            Check.law(x, "lends 20", -5);
            Check.run(x, "count 3 = 6", "force 6 = -2", "force 5 = -1", "hour 0 0 6 = 15", "force 0 = 5", "hour 0 0 6 = 10");
        });
        Edge.of("one is in FORCE (NONE at first: no CLAUSE)", () -> {
            PawnedHours x = Check.withPeople(1);
            Check.law(x, "lends 9;bars;costs 8", 0);
            Check.run(x, "count 11 = -1", "hour 0 0 6 = 1", "hour 0 0 8 = 0", "pawn 0 0 = 1", "hour 0 0 7 = 1", "force 0 = -1",
                "hour 0 0 6 = 9", "hour 0 0 8 = 1", "hour 0 0 7 = 8");
        });
        Edge.of("are asked of an HOUR of a PERSON that is pawned (loan, days -1), \"costs\" of one that was (days: since then); with: of how many.",
            () -> {
                PawnedHours x = Check.withPeople(6);
                Check.law(x, "lends 500+loan*100+days;bars if not (loan=0-1 and days=0-1);costs loan*10+days", 0);
                Check.run(x, "force 0 = -1", "terms 0 4 = 0", "hour 0 0 8 = 0", "pawn 0 0 = 399", "hour 0 0 7 = 3990",
                    "hour 0 0 6 = 399", "hour 0 0 8 = 0", "pass = 5", "pass = 6", "hour 0 0 7 = 3992", "hour 0 0 6 = 399",
                    "hour 0 0 8 = 0");
                Check.law(x, "lends with*100", 1);
                Check.run(x, "force 1 = 0", "hour 3 3 6 = 0", "put 3 3 1 4 = 0", "hour 3 3 6 = 100", "put 3 3 1 55 = 4",
                    "hour 3 3 6 = 500");
                Check.law(x, "lends 100+fact", 2);
                Check.run(x, "force 2 = 1", "hour 3 3 6 = 99", "put 3 3 0 7 = -1", "hour 3 3 6 = 107");
            });
    }

    private static void whatLawsTell() {
        Edge.of("A CLAUSE HOLDS, if its \"if\" (if it has one) is so, and neither that nor its SUM is BROKEN.", () -> {
            lends("7 if 1=1", 7);
            lends("7 if 1=2", 1);
            lends("7 if 1/0=1", 1);
            lends("7/0 if 1=1", 1);
            lends("7/0 if 1=2", 1);
            holds("1/0=0", 0);
            Check.due("a bare bars", ruledBy("bars").hour(0, 0, 8), 1);
        });
        Edge.of("One LENDS what the last \"lends\" that HOLDS tells, 0 .. 999 (else the nearest), WORTH without", () -> {
            lends("999", 999);
            lends("1000", 999);
            lends("0", 0);
            lends("0-1", 0);
            lends("1000*1000*1000", 999);
            lends("3;lends 4", 4);
            lends("3;lends 4 if 1=2", 3);
            lends("3;lends 4/0", 3);
            lends("3 if 1=2;lends 4 if 1=2", 1);
            lends("3;costs 4;bars", 3);
            PawnedHours x = ruledBy("costs 4;bars if 1=2");
            Check.run(x, "put 0 0 2 99 = 1", "hour 0 0 6 = 99", "put 0 0 2 0 = 99", "hour 0 0 6 = 0", "pawn 0 0 = 0");
            PawnedHours y = ruledBy("lends 0-5");
            Check.run(y, "pawn 0 0 = 0", "status = 0", "hour 0 0 4 = 0", "of 0 0 = 0");
        });
        Edge.of("to redeem COSTS 0 .. 9,999, without LOAN and as many more as DAYS", () -> {
            PawnedHours x = Check.withPeople(1);
            String[] sums = {"999*10+9", "1000*10", "1000*1000*1000", "0", "0-1", "5;costs 6", "5;costs 6/0", "5 if 1=2", "1/0"};
            int[] due = {9999, 9999, 9999, 0, 0, 6};
            Check.run(x, "put 0 0 2 40 = 1", "pawn 0 0 = 40");
            for (int i = 0; i < 6; i++) {
                Check.law(x, "costs " + sums[i], i);
                Check.due("force", x.force(i), i - 1);
                Check.due("what costs " + sums[i], x.hour(0, 0, 7), due[i]);
            }
            Check.run(x, "redeem 0 0 = 6", "of 0 0 = 34");
            PawnedHours y = Check.withPeople(1);
            Check.run(y, "put 0 0 2 40 = 1", "pawn 0 0 = 40", "hour 0 0 7 = 40", "pass = 1", "hour 0 0 7 = 41", "terms 0 999 = 1",
                "hour 0 0 7 = 1039");
            for (int i = 6; i < 9; i++) {
                Check.law(y, "lends 7;costs " + sums[i], i - 6);
                Check.due("force", y.force(i - 6), i - 7);
                Check.due("what costs " + sums[i], y.hour(0, 0, 7), i == 6 ? 5 : 1039);
            }
        });
        Edge.of("it is BARRED, if \"bars\" HOLDS.", () -> {
            PawnedHours x = ruledBy("bars if hour<2;bars if hour>9;bars if hour/0=0");
            Check.run(x, "hour 0 0 8 = 1", "hour 0 1 8 = 1", "hour 0 2 8 = 0", "hour 0 9 8 = 0", "hour 0 10 8 = 1",
                "hour 0 11 8 = 1", "pawn 0 1 = -3", "pawn 0 2 = 1", "pawn 0 9 = 1", "pawn 0 10 = -3");
        });
    }

    private static void words() {
        Edge.of("Words: \"person\" | \"hour\" | \"fact\" | \"with\" | \"worth\" | \"loan\" | \"days\" | \"today\" | \"mood\".", () -> {
            // The least and the most that each one can tell of what is lent, and behind the last day of what it costs.
            PawnedHours x = Check.withPeople(6);
            String[] words = {"person", "hour", "fact", "with", "worth", "mood"};
            int[] most = {5, 11, 7, 5, 99, 9};
            int[] least = {0, 0, -1, 0, 0, 0};
            for (int i = 0; i < words.length; i++) {
                Check.law(x, "lends 100+" + words[i], i);
            }
            Check.run(x, "put 5 11 0 7 = -1", "put 5 11 1 31 = 0", "put 5 11 2 99 = 1", "put 0 0 2 0 = 1");
            for (int i = 0; i < words.length; i++) {
                x.terms(4, 9);
                x.force(i);
                Check.due("the most " + words[i], x.hour(5, 11, 6), 100 + most[i]);
                x.terms(4, 0);
                Check.due("the least " + words[i], x.hour(0, 0, 6), 100 + least[i]);
            }
            PawnedHours y = Check.withPeople(1);
            Check.law(y, "lends 1000;costs today;bars if today=999", 0);
            Check.law(y, "costs days", 1);
            Check.law(y, "costs loan", 2);
            Check.run(y, "force 0 = -1", "pawn 0 0 = 999", "hour 0 0 7 = 0", "terms 0 999 = 0", "hour 0 0 7 = 999", "hour 0 1 8 = 1",
                "force 1 = 0", "hour 0 0 7 = 999", "force 2 = 1", "hour 0 0 7 = 999");
        });
    }

    private static void textsAlone() {
        Edge.of("FAULT: the first TOKEN that can't go on there (the end's: the TEXT's length).", () -> {
            // Nothing of an earlier text is left: neither its bytes behind the end, nor its parts, brackets, clauses.
            PawnedHours x = Check.withPeople(1);
            Check.law(x, "bars;bars", 0);
            Check.law(x, "bars", 1);
            Check.law(x, "lends 12", 2);
            Check.law(x, "lends 1", 3);
            Check.run(x, "force 3 = -1", "hour 0 0 6 = 1");
            PawnedHours y = Check.withPeople(1);
            Check.law(y, "lends " + "[".repeat(8) + "1" + "+1".repeat(49), -6);
            Check.law(y, "lends " + "[".repeat(8) + "1" + "]".repeat(8) + "+1".repeat(49), 0);
            Check.law(y, "bars;".repeat(12), -6);
            Check.law(y, "lends 2;" + "bars;".repeat(10) + "lends 3", 1);
            Check.law(y, "bars if (((((((1=1 or", -6);
            Check.law(y, "lends 4 if ((((((((1=1))))))))", 2);
            Check.run(y, "force 2 = -1", "hour 0 0 6 = 4", "hour 0 0 8 = 0", "force 1 = 2", "hour 0 0 6 = 3", "force 0 = 1", "hour 0 0 6 = 50");
            // A text that is read stays as it was read, whatever is read behind it.
            Check.orders(y, "pass if 1=2", 0);
            Check.run(y, "hour 0 0 6 = 50", "force 2 = 0", "hour 0 0 6 = 4");
            // However much was read before: the longest texts, one behind the other.
            PawnedHours z = Check.withPeople(1);
            for (int i = 0; i < 16; i++) {
                Check.orders(z, "pass if 1" + "+1".repeat(48) + "=49", 1);
                Check.orders(z, "pass if 1" + "+1".repeat(49), -6);
            }
            Check.law(z, "lends 1" + "+1".repeat(49), 0);
            Check.run(z, "force 0 = -1", "hour 0 0 6 = 50", "count 12 = 16");
        });
        Edge.of("The TAPE has its first n bytes alone: n.", () -> {
            // What end() cuts off is no token of the text, though it was one of the text ahead of it.
            PawnedHours x = Check.withPeople(1);
            String[] texts = {"lends 5;bars", "lends 5*2", "lends 5 if 1=2", "lends 5+mood", "lends 55"};
            for (int law = 0; law < texts.length; law++) {
                PawnedHours y = Check.withPeople(1);
                Check.law(y, texts[law], 0);
                Check.tape(y, texts[law]);
                Check.run(y, "end 7 = 7", "law = 1", "fault = -1", "force 1 = -1", "hour 0 0 6 = 5", "hour 0 0 8 = 0");
            }
            Check.orders(x, "pass times 2", 2);
            Check.tape(x, "pass times 2");
            Check.run(x, "end 10 = 10", "orders = -6", "fault = 10");
            Check.tape(x, "pass times 20");
            Check.run(x, "end 12 = 12", "orders = 2");
            Check.tape(x, "pass if now=1");
            Check.run(x, "end 4 = 4", "orders = 1", "end 4 = -1", "count 12 = 5");
        });
    }

    private static void ordersAsRead() {
        Edge.of("TIMES: a NUMBER 1 .. 20.", () -> {
            ordersFault("pass times 1", -1);
            ordersFault("pass times 20", -1);
            ordersFault("pass times 0", 11);
            ordersFault("pass times 21", 11);
            ordersFault("pass times 1000", 11);
            ordersFault("pass times now", 11);
            ordersFault("pass times -1", 11);
            ordersFault("pass times [1]", 11);
            // Bytes that stand behind the digits are no numbers.
            for (char sign = ':'; sign <= 'D'; sign++) {
                ordersFault("pass times " + sign, 11);
            }
            ordersFault("pass times 1+1", 12);
            PawnedHours x = new PawnedHours();
            Check.orders(x, "pass times 20", 20);
            Check.orders(x, "pass times 1", 1);
            Check.run(x, "count 12 = 21");
        });
        Edge.of("(P: a NUMBER 0 .. 5, F: 0 .. 7)", () -> {
            ordersFault("pass if purse 0=0", -1);
            ordersFault("pass if purse 5=0", -1);
            ordersFault("pass if purse 6=0", 14);
            ordersFault("pass if held 5=0", -1);
            ordersFault("pass if held 6=0", 13);
            ordersFault("pass if knows 5 7=0", -1);
            ordersFault("pass if knows 6 7=0", 14);
            ordersFault("pass if knows 5 8=0", 16);
            ordersFault("pass if knows 57=0", 14);
            ordersFault("pass if knows 5=0", 15);
            ordersFault("pass if purse now=0", 14);
            ordersFault("pass if held [0]=0", 13);
        });
        Edge.of("P, F, TIMES aside, NUMBERS and words count as PARTS.", () -> {
            ordersFault("pass times 20 if knows 0 0=0" + "+knows0 0".repeat(24) + "+held0".repeat(24), -1);
            ordersFault("pass times 20 if knows 0 0=0" + "+knows0 0".repeat(24) + "+held0".repeat(25), 389);
            ordersFault("pass times 2;".repeat(10) + "pass if 1" + "+1".repeat(48) + "=1", -1);
            ordersFault("pawn 1" + "+1".repeat(47) + " of 1+1", -1);
            ordersFault("pawn 1" + "+1".repeat(47) + " of 1+1+1", 108);
        });
    }

    private static void ordersAsRun() {
        Edge.of("Words: \"now\" | \"done\" | \"last\" | \"purse\" P | \"held\" P | \"knows\" P F", () -> {
            ordersFault("pass if now+done+last+purse 0+held 0+knows 0 0=0", -1);
            ordersFault("pass if now 0=0", 12);
            ordersFault("pass if done 0=0", 13);
            ordersFault("pass if last 0=0", 13);
            ordersFault("pass if purse=0", 13);
            ordersFault("pass if held=0", 12);
            ordersFault("pass if knows=0", 13);
            ordersFault("pass if purse 0 0=0", 16);
            ordersFault("pass if held 0 0=0", 15);
            ordersFault("pass if knows 0 0 0=0", 18);
            ordersFault("pass if today=0", 8);
            ordersFault("pass if person=0", 8);
            ordersFault("pass if know 0 0=0", 8);
        });
        Edge.of("Run CLAUSE by CLAUSE", () -> {
            // Each one finds what the one ahead of it left; the last of twelve runs, too.
            PawnedHours x = Check.withPeople(1);
            Check.orders(x, "pawn 0 of 0;redeem 0 of 0;".repeat(5) + "pawn 0 of 0;pass", 12);
            Check.run(x, "hour 0 0 3 = 1", "hour 0 0 5 = 1", "count 12 = 1", "count 4 = 12");
            Check.orders(x, "pass times 2 if done<1;pass times 2 if done=1;pass if done=2", 3);
            Check.run(x, "count 12 = 4");
            Check.orders(x, "redeem 0 of 0;pawn 0 of 0;redeem 0 of 0 times 2", -3);
            Check.run(x, "stopped = 2", "hour 0 0 5 = 4");
        });
        Edge.of("each as often as TIMES tell (once without)", () -> {
            PawnedHours x = Check.withPeople(1);
            Check.orders(x, "pass", 1);
            Check.run(x, "count 12 = 1");
            Check.orders(x, "pass times 3;pass;pass times 2", 6);
            Check.run(x, "count 12 = 7");
        });
        Edge.of("each time its \"if\" is asked (not run, if it is not so or BROKEN), then its SUMS from the left.", () -> {
            PawnedHours x = Check.withPeople(1);
            Check.orders(x, "pass times 20 if now<7", 7);
            Check.orders(x, "pass if 1=2;pass times 20 if 1/0=1;pawn 1/0 of 0 if 1=2;pawn 99 of 99 if 1/0=0", 0);
            Check.run(x, "count 12 = 7", "status = 0");
            Check.orders(x, "pawn done of 0 times 12", 12);
            Check.run(x, "of 0 2 = 12");
        });
        Edge.of("done: how many were run in this TEXT, last: what was lent or paid latest in it (-1: none)", () -> {
            PawnedHours x = Check.withPeople(1);
            Check.run(x, "put 0 4 2 40 = 1", "pawn 0 0 = 1");
            Check.orders(x, "pass if last=0-1 and done=0;pass if last=0-1 and done=1;pawn 4 of 0 if done=2;"
                + "pass if last=40 and done=3;pass if 1=2;redeem 4 of 0 if done=4 and last=40;pass if last=41 and done=5", 6);
            Check.orders(x, "pass if last=0-1 and done=0", 1);
            Check.law(x, "lends 0", 0);
            Check.run(x, "force 0 = -1");
            Check.orders(x, "pawn 5 of 0;pass if last=0", 2);
        });
        Edge.of("now: DAY", () -> {
            PawnedHours x = Check.withPeople(1);
            Check.run(x, "terms 0 997 = 0");
            Check.orders(x, "pass if now=997;pass if now=998 and done=1;pass if now<999", 2);
            Check.orders(x, "pawn now-999 of 0 if now=999 and done=0", 1);
            Check.run(x, "hour 0 0 3 = 1");
        });
        Edge.of("purse: of a PERSON", () -> {
            PawnedHours x = Check.withPeople(6);
            Check.run(x, "give 5 99999 = 0", "give 0 3 = 0");
            Check.orders(x, "pass if purse 0=3 and purse 1=0 and purse 5=1000*100-1", 1);
            Check.orders(x, "pass if purse 0=8 and purse 1=5 and purse 5=1000*100-1;pass if purse 0=13 and purse 1=10;"
                + "pawn 0 of 0 if purse 0=18;pass if purse 0=19 and purse 1=15;redeem 0 of 0;pass if purse 0=22 and purse 4=20", 6);
        });
        Edge.of("held: how many HOURS are HELD (-1: no such)", () -> {
            PawnedHours x = Check.withPeople(2);
            Check.orders(x, "pass if held 0=12 and held 1=12 and held 2=0-1 and held 5=0-1", 1);
            Check.orders(x, "pawn held 1-1 of 1 times 12", 12);
            Check.orders(x, "pass if held 1=0 and held 0=12", 1);
        });
        Edge.of("knows: 1 if a PERSON KNOWS a FACT, else 0 (-1: no such)", () -> {
            PawnedHours x = Check.withPeople(2);
            Check.run(x, "put 1 3 0 7 = -1");
            Check.orders(x, "pass if knows 1 7=1 and knows 0 7=0 and knows 1 6=0 and knows 2 7=0-1 and knows 5 0=0-1", 1);
            Check.orders(x, "pawn 3 of 1;pass if knows 1 7=0", 2);
            Check.run(x, "put 0 0 0 0 = -1", "put 0 11 0 5 = -1");
            Check.orders(x, "pass if knows 0 0=1 and knows 0 5=1;pawn 0 of 0;pass if knows 0 0=0 and knows 0 5=1", 3);
        });
    }

    private static void ordersThatCannotBe() {
        Edge.of("One that can't be (a BROKEN SUM, as pawn(), redeem(), pass() are REFUSED) ends it: all is as it was ahead of it.",
            () -> {
                String[] texts = {"pawn 1/0 of 0", "pawn 1 of 0/0", "pawn 1000*1000*1000*2 of 0", "pawn 12 of 0", "pawn 0-1 of 0",
                    "pawn 1 of 1", "pawn 1 of 0-1", "pawn 2 of 0", "pawn 3 of 0", "redeem 1 of 0", "redeem 12 of 0",
                    "redeem 0 of 1", "redeem 0 of 0", "redeem 3 of 0", "redeem 0/0 of 0", "pawn 1 of 0 times 2",
                    "pass times 20"};
                for (String text : texts) {
                    PawnedHours x = Check.withPeople(1);
                    Check.law(x, "bars if hour=2;costs 9*1000 if hour=0", 0);
                    Check.run(x, "terms 2 1 = 9", "terms 0 989 = 0", "pawn 0 3 = 1", "pass = 990", "auction 0 3 = 1", "pawn 0 0 = 1",
                        "force 0 = -1", "give 0 50 = 7", "pawn 0 11 = 1");
                    Check.orders(x, "pass;pawn 5 of 0;redeem 11 of 0;" + text, -3);
                    Check.run(x, "status = -3", "stopped = 3", "count 12 = 990", "of 0 0 = 51", "of 0 1 = 9", "of 0 2 = 2",
                        "of 0 3 = 1", "hour 0 5 3 = 0", "hour 0 11 3 = 1", "hour 0 11 4 = 1", "hour 0 11 5 = 0", "count 4 = 1",
                        "undo = 0", "hour 0 11 3 = 0", "undo = -3");
                }
                // What could be undone ahead of it can be undone, though the orders went round the whole room for it.
                PawnedHours y = Check.withPeople(2);
                for (int i = 0; i < 16; i++) {
                    Check.due("pawn", y.pawn(i / 12, i % 12), 1);
                }
                Check.orders(y, "pass times 20;pawn 4 of 1;pass times 17;pawn 4 of 1", -3);
                Check.run(y, "count 4 = 16", "count 12 = 0", "of 0 0 = 12", "of 1 0 = 4");
                for (int i = 15; i >= 0; i--) {
                    Check.due("undo", y.undo(), 0);
                    Check.due("the purse behind it", y.of(i / 12, 0), i % 12);
                    Check.due("the hour behind it", y.hour(i / 12, i % 12, 3), 0);
                }
                Check.run(y, "undo = -3", "count 1 = 0");
            });
    }

    private static void law() {
        Edge.of("The TAPE, which is empty then, becomes a LAW: its number.", () -> {
            PawnedHours x = new PawnedHours();
            Check.law(x, "lends 1", 0);
            Check.run(x, "count 5 = 0", "status = 0");
            Check.law(x, "lends", -6);
            Check.run(x, "count 5 = 0", "status = -6");
            Check.law(x, "lends 2", 1);
        });
        Edge.of("-5 (ahead of reading it; the TAPE is empty then, too)", () -> {
            PawnedHours x = new PawnedHours();
            for (int law = 0; law < 6; law++) {
                Check.law(x, "bars", law);
            }
            Check.orders(x, "pass ?", -6);
            Check.run(x, "fault = 5");
            Check.law(x, "bars ? ?", -5);
            Check.run(x, "fault = 5", "count 5 = 0", "status = -5", "law = -5", "count 9 = 2", "count 10 = 1", "count 3 = 6");
        });
        Edge.of("-6 (blanks alone: FAULT at the end).", () -> {
            PawnedHours x = new PawnedHours();
            Check.run(x, "law = -6", "fault = 0", "status = -6");
            Check.law(x, " ", -6);
            Check.run(x, "fault = 1");
            Check.law(x, " ".repeat(400), -6);
            Check.run(x, "fault = 400", "count 3 = 0");
        });
    }

    private static void orders() {
        Edge.of("ORDERS, the TAPE is empty then: how many were run.", () -> {
            PawnedHours x = new PawnedHours();
            Check.orders(x, "pass if 1=2", 0);
            Check.run(x, "count 5 = 0", "status = 0");
            Check.orders(x, "pass times 20;".repeat(11) + "pass times 20", 240);
            Check.run(x, "count 5 = 0", "count 12 = 240");
        });
        Edge.of("-3 one can't be; -6 (as for law()).", () -> {
            PawnedHours x = new PawnedHours();
            Check.orders(x, "pawn 0 of 0", -3);
            Check.run(x, "status = -3", "count 5 = 0", "count 8 = 1", "count 7 = 0", "orders = -6", "fault = 0", "status = -6");
            Check.orders(x, "  ", -6);
            Check.run(x, "fault = 2", "count 10 = 2", "count 5 = 0");
        });
    }

    private static void fault() {
        Edge.of("FAULT of the latest law(), orders() that read a TEXT: its place; NONE without.", () -> {
            PawnedHours x = Check.withPeople(1);
            Check.run(x, "fault = -1");
            Check.law(x, "bars ?", -6);
            Check.run(x, "fault = 5", "row 0 = -6", "fault = 5", "feed 0 0 0 0 0 = 20", "fault = 5");
            Check.law(x, "bars", 0);
            Check.run(x, "fault = -1");
            Check.orders(x, "?", -6);
            Check.run(x, "fault = 0");
            Check.orders(x, "pawn 99 of 0", -3);
            Check.run(x, "fault = -1");
        });
    }

    private static void stopped() {
        Edge.of("Which CLAUSE of the latest orders() could not be. NONE.", () -> {
            PawnedHours x = Check.withPeople(1);
            Check.run(x, "stopped = -1");
            Check.orders(x, "pawn 99 of 0", -3);
            Check.run(x, "stopped = 0", "law = -6", "stopped = 0", "pawn 9 9 = -2", "stopped = 0");
            Check.orders(x, "pass;".repeat(11) + "pawn 99 of 0", -3);
            Check.run(x, "stopped = 11");
            Check.orders(x, "pass if 1=2;pass times 2;pawn 0 of 0 times 2", -3);
            Check.run(x, "stopped = 2");
            Check.orders(x, "pass", 1);
            Check.run(x, "stopped = -1");
            Check.orders(x, "pawn 99 of 0", -3);
            Check.orders(x, "pass ?", -6);
            Check.run(x, "stopped = -1");
        });
    }

    private static void force() {
        Edge.of("A LAW is in FORCE (NONE: none): which was. -2.", () -> {
            PawnedHours x = new PawnedHours();
            Check.run(x, "force 0 = -2", "status = -2", "force -1 = -1", "status = 0");
            Check.law(x, "bars", 0);
            Check.run(x, "force 1 = -2", "force 0 = -1", "status = 0", "force 0 = 0", "force -2 = -2", "force 6 = -2",
                "force 2147483647 = -2", "force -2147483648 = -2", "count 11 = 0", "force -1 = 0", "count 11 = -1",
                "count 7 = 6", "count 6 = 0");
        });
    }
}
