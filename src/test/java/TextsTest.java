/** Promises 13 to 17 and Terms II: laws, orders, their faults, what they tell and do. */
public final class TextsTest {
    public static void main(String[] args) {
        lawNumbers();
        lawFaults();
        ordersFaults();
        limits();
        sums();
        tests();
        words();
        lastThatHolds();
        ordersRun();
        ordersWords();
        ordersStop();
        force();
        Check.end();
    }

    /** The fault's place is marked by ^, which is not on the tape; a text without one has no fault. */
    private static void faulty(boolean orders, String marked) {
        int place = marked.indexOf('^');
        String text = place < 0 ? marked : marked.substring(0, place) + marked.substring(place + 1);
        PawnedHours x = Check.withPeople(1);
        Check.tape(x, text);
        long answer = orders ? x.orders() : x.law();
        if (place >= 0) {
            Check.due((orders ? "orders() of " : "law() of ") + marked, answer, -6);
            Check.due("status() behind " + marked, x.status(), -6);
        }
        Check.due("fault() of " + marked, x.fault(), place);
        Check.due("bytes left behind " + marked, x.count(5), 0);
        Check.due("laws behind " + marked, x.count(3), orders || place >= 0 ? 0 : 1);
    }

    private static void lawNumbers() {
        PawnedHours x = new PawnedHours();
        for (int i = 0; i < 6; i++) {
            Check.law(x, "lends " + i, i);
        }
        Check.run(x, "fault = -1", "count 3 = 6", "status = 0");
        Check.law(x, "lends", -5);
        Check.run(x, "status = -5", "count 5 = 0", "fault = -1", "count 3 = 6", "count 9 = 1", "count 10 = 0");
        PawnedHours y = new PawnedHours();
        Check.law(y, "lends lends", -6);
        Check.run(y, "fault = 6", "count 3 = 0");
        for (int i = 0; i < 6; i++) {
            Check.law(y, "bars", i);
        }
        Check.orders(y, "pass x", -6);
        Check.run(y, "fault = 5");
        Check.law(y, "", -5);
        Check.run(y, "fault = 5", "end 0 = 0", "orders = -6", "fault = 0");
        // Laws are no deed: what can be undone stays.
        PawnedHours z = Check.withPeople(1);
        Check.run(z, "pawn 0 0 = 1");
        Check.law(z, "bars", 0);
        Check.run(z, "force 0 = -1", "count 4 = 1", "undo = 0", "count 3 = 1", "count 11 = 0");
    }

    private static void lawFaults() {
        String[] texts = {
            "^", "   ^", "lends^", "lends   ^", "^lend 1", "^lendss 1", "^lendsz 1", "^lendsa 1", "^zlends 1", "^1", "^;", "^if 1=1", "^Lends 1", "^pass",
            "lends 1", "  lends  1  ", "lends1", "lends 1;^", "lends 1; ^", "lends 1 ;^;bars",
            "lends 1 ^2", "lends ^+", "lends 1 + ^", "lends 1 + ^+ 1", "lends ^-1", "lends ^(1)", "lends [1]",
            "lends [1^", "lends [1^)", "lends [^]", "lends 1^]", "lends 1 ^= 1", "lends 1 ^times 2", "lends ^now",
            "lends ^purse 0", "lends ^if 1 = 1", "lends 1000", "lends ^1001", "lends 0001000", "lends ^00001001",
            "lends ^99999999999999999999", "lends 00000000000000000000000000007", "lends 1^a", "lends 1^lends",
            "lends 1*^/2", "lends 1^\t", "lends 1^\u0000", "lends 1^\u00ff", "lends 1^.5", "lends 1^{", "lends 1^`", "lends 1^:", "lends 90", "lends 09", "lends ^'", "lends 1 ^A",
            "bars", "bars ^3", "bars if 1 = 1", "bars if^", "bars if ^;", "bars if 1^", "bars if 1 <^", "bars if 1 <^= 2",
            "bars if 1 < 2 ^< 3", "bars if (1 < 2)", "bars if (1 < 2^", "bars if (1 < 2^]", "bars if ^)", "bars if (1^)",
            "bars if ([1] = 1)", "bars if [1^= 1]", "bars if [1 ^= 1]", "bars if not 1 = 1",
            "bars if not not not 1 = 1", "bars if not^", "bars if not ^and", "bars if 1 = 1 and^", "bars if 1 = 1 or ^or",
            "bars if 1 = 1 and not (2 = 2 or 3 = 3)", "bars if 1 = 1 ^not 2 = 2", "bars if 1 = 1 ^if 2 = 2",
            "bars if 1=1;lends 2;costs 3 if 1=1", "bars if 1=1;^of", "bars if (1=1) ^+ 1", "bars if (1=1) ^= 1",
            "bars if 1=1or 2=2", "bars if 1=1 ^orx", "costs 1 - worth % 2 / 3 * [today + mood]", "costs ^bars",
            "costs person+hour+fact+with+worth+loan+days+today+mood", "costs ^of", "costs ^done", "costs ^knows 0 0",
            "costs 1 ^of 2", "bars ^of", "lends 1 if 1 * ^= 2", "lends 1 if 1 = 1 ^= 1",
            "lends 1;lends 2 ^lends 3", "lends 1^,2", "lends ^wor th"};
        for (String text : texts) {
            faulty(false, text);
        }
    }

    private static void ordersFaults() {
        String[] texts = {
            "^", " ^", "^lends 1", "^pas", "pass", "pass ^1", "pass times^", "pass times ^0",
            "pass times 1", "pass times 20", "pass times ^21", "pass times ^x", "pass times ^[1]", "pass times 1 ^+ 1",
            "pass times 02", "pass ^of 0", "pass if 1 = 1", "pass times 2 if 1 = 1", "pass if 1 = 1 ^times 2",
            "pass;^", "pass;pass", "pass ^pass", "pawn^", "pawn ^of", "pawn 0^", "pawn 0 ^by 0", "pawn 0 of^",
            "pawn 0 of ^of", "pawn 0 of 0", "pawn 1 + 1 of 0", "pawn [0] of [0]", "redeem 0 of 0 if 1 = 2",
            "redeem ^(0) of 0", "redeem 0 of 0 times ^0", "pawn 0 of 0 ^of 0", "pawn ^worth of 0", "pawn ^hour of 0",
            "pawn now of done + last", "pawn purse 0 of 0", "pawn purse ^6 of 0", "pawn purse ^of 0", "pawn purse ^x",
            "pawn purse^", "pawn held 5 of 0", "pawn held ^6 of 0", "pawn held ^[0] of 0", "pawn knows 5 7 of 0",
            "pawn knows ^6 0 of 0", "pawn knows 0 ^8 of 0", "pawn knows 0 ^of 0", "pawn knows ^of", "pawn knows 0^",
            "pawn purse 05 of 0", "pawn purse 0 ^1 of 0", "pawn held0 of 0", "pass if purse ^= 0", "pass if ^person = 0",
            "pass if ^today = 0", "pass if now = 0 and (done = 0 or last < 0)", "pass if ^times 3", "pawn ^1001 of 0",
            "pawn 0 of 1000", "pass times ^1000", "pass;pawn 0 of 0;redeem 0 of 0 ^redeem", "^auction 0 of 0"};
        for (String text : texts) {
            faulty(true, text);
        }
    }

    private static void limits() {
        faulty(false, "lends 1" + "+1".repeat(49));
        faulty(false, "lends 1" + "+1".repeat(49) + "+^1");
        faulty(false, "lends 1" + "+1".repeat(49) + "+^mood");
        faulty(false, "lends 1" + "+1".repeat(49) + "+^1001");
        faulty(false, "lends 1" + "+1".repeat(49) + "+[^1]");
        faulty(false, "lends 1" + "+mood".repeat(49));
        faulty(false, "lends mood" + "+1".repeat(48) + ";bars;costs [1];costs ^worth");
        faulty(false, "bars if 1=1" + " or 1=1".repeat(24));
        faulty(false, "bars if 1=1" + " or 1=1".repeat(24) + " or ^1=1");
        // P, F and TIMES are no parts, the words ahead of them are.
        faulty(true, "pass times 2;pass if purse 0=0" + "+held 0".repeat(47) + "+knows 0 0");
        faulty(true, "pass times 2;pass if purse 0=0" + "+held 0".repeat(48) + "+^knows 0 0");
        faulty(true, "pass times 2;pass if purse 0=0" + "+held 0".repeat(48) + "+^knows 9 9");
        faulty(false, "lends " + "[".repeat(8) + "1" + "]".repeat(8));
        faulty(false, "lends " + "[".repeat(8) + "^[1" + "]".repeat(9));
        faulty(false, "bars if " + "(".repeat(8) + "1=1" + ")".repeat(8));
        faulty(false, "bars if " + "(".repeat(8) + "^(1=1" + ")".repeat(9));
        faulty(false, "bars if " + "(".repeat(5) + "[[[1]]]=1" + ")".repeat(5));
        faulty(false, "bars if " + "(".repeat(5) + "[[[^[1]]]]=1" + ")".repeat(5));
        faulty(false, "lends [1]" + "+[1]".repeat(20));
        faulty(false, "bars if (1=1)" + "or(1=1)".repeat(20));
        faulty(false, "bars" + ";bars".repeat(11));
        faulty(false, "bars" + ";bars".repeat(11) + ";^bars");
        faulty(false, "bars" + ";bars".repeat(11) + "; ^");
        faulty(false, "bars" + ";bars".repeat(11) + "; ^;");
        faulty(true, "pass" + ";pass".repeat(11));
        faulty(true, "pass" + ";pass".repeat(11) + "; ^pass;pass");
        faulty(false, "bars if " + "not ".repeat(97) + "1=1");
        faulty(false, "bars if " + "not ".repeat(98) + "^");
        faulty(false, "lends 1" + " ".repeat(393));
        faulty(false, " ".repeat(393) + "lends 1");
        faulty(false, " ".repeat(400) + "^");
        faulty(false, "^" + "a".repeat(400));
        faulty(false, "lends ^" + "1".repeat(394));
        faulty(false, "lends " + "0".repeat(394));
        faulty(false, "lends 1;^" + ";".repeat(392));
        faulty(false, "lends " + "[".repeat(8) + "^" + "[".repeat(386));
        faulty(false, "^" + ";".repeat(400));
        faulty(true, "pass^" + "(".repeat(396));
        // No text leaves anything behind for the next one.
        PawnedHours x = new PawnedHours();
        Check.law(x, "lends " + "[".repeat(7) + "1" + "+1".repeat(48) + "+;", -6);
        Check.law(x, "lends " + "[".repeat(8) + "1" + "]".repeat(8) + "+1".repeat(49), 0);
        Check.law(x, "bars" + ";bars".repeat(12), -6);
        Check.law(x, "bars" + ";bars".repeat(11), 1);
        Check.law(x, "lends 5 if 1 = 2 or ?", -6);
        Check.law(x, "lends 5", 2);
        Check.run(x, "person = 0", "force 2 = -1", "hour 0 0 6 = 5");
    }

    /** What a new hour of person 0 lends by a sum; its worth 1 if the sum is broken. */
    private static void lends(String sum, int want) {
        PawnedHours x = Check.withPeople(1);
        Check.law(x, "lends " + sum, 0);
        x.force(0);
        Check.due("what lends " + sum, x.hour(0, 0, 6), want);
    }

    private static void sums() {
        lends("2+3*4", 14);
        lends("[2+3]*4", 20);
        lends("10-3-2", 5);
        lends("10-[3-2]", 9);
        lends("100/10/2", 5);
        lends("100/[10/2]", 20);
        lends("2*3%4", 2);
        lends("2*[3%4]", 6);
        lends("7/2", 3);
        lends("[0-7]/2+10", 7);
        lends("7/[0-2]+10", 7);
        lends("[0-7]%3+10", 9);
        lends("7%[0-3]+10", 11);
        lends("17%5", 2);
        lends("0-5", 0);
        lends("999", 999);
        lends("1000", 999);
        lends("1000*1000*1000", 999);
        lends("1000*1000*1000+1", 1);
        lends("0-1000*1000*1000", 0);
        lends("0-1000*1000*1000-1", 1);
        lends("1000*1000*1000+1-1", 1);
        lends("1000*1000*1000-1+1", 999);
        lends("1000*1000*1000*1000/1000/1000/1000", 1);
        lends("1000*1000*1000*0", 0);
        lends("5/0", 1);
        lends("5%0", 1);
        lends("5/[3-3]", 1);
        lends("0*[5/0]", 1);
        lends("0/5", 0);
    }

    /** Whether a new hour is barred by a test. */
    private static void bars(String test, int want) {
        PawnedHours x = Check.withPeople(1);
        Check.law(x, "bars if " + test, 0);
        x.force(0);
        Check.due("bars if " + test, x.hour(0, 0, 8), want);
    }

    private static void tests() {
        bars("1 < 2", 1);
        bars("2 < 2", 0);
        bars("2 > 1", 1);
        bars("2 > 2", 0);
        bars("2 = 2", 1);
        bars("2 = 1", 0);
        bars("not 2 = 1", 1);
        bars("not not 2 = 1", 0);
        bars("not not not 2 = 1", 1);
        bars("not (not 1 = 1)", 1);
        bars("not (not 1 = 2)", 0);
        bars("not 1 = 1 or 1 = 1", 1);
        bars("not (1 = 1 or 1 = 1)", 0);
        bars("1 = 1 or 1 = 1 and 1 = 2", 1);
        bars("(1 = 1 or 1 = 1) and 1 = 2", 0);
        bars("1 = 2 or 1 = 2 or 1 = 1", 1);
        bars("1 = 1 and 1 = 1 and 1 = 2", 0);
        bars("1 = 1 and 1 = 1 and 1 = 1", 1);
        bars("1 = 2 and 1 = 1 or 1 = 1 and 2 = 2", 1);
        bars("1 = 2 or not 1 = 1 or 1 = 1 and not 1 = 2", 1);
        // What can't matter any more is not asked; what is asked and breaks breaks it all.
        bars("1 = 1 or 1/0 = 1", 1);
        bars("1/0 = 1 or 1 = 1", 0);
        bars("not (1 = 2 and 1/0 = 1)", 1);
        bars("not (1 = 1 and 1/0 = 1)", 0);
        bars("not 1/0 = 1", 0);
        bars("1 = 1 or 1/0 = 1 or 1/0 = 2", 1);
        bars("1 = 2 and 1/0 = 1 or 1 = 1", 1);
        bars("1 = 2 and 1/0 = 1 and 1/0 = 2 or 1 = 1", 1);
        bars("(1 = 1 or 1/0 = 1) and (1 = 1 or 1/0 = 1)", 1);
        bars("1 = 2 or 1 = 1 and 1/0 = 1", 0);
        bars("1 = 1/0", 0);
        bars("1000*1000*1000 < 1000*1000*1000+1", 0);
        bars("1000*1000*1000 = 1000*1000*1000", 1);
    }

    private static void words() {
        PawnedHours x = Check.withPeople(4);
        Check.run(x, "put 2 7 0 4 = -1", "put 2 7 1 11 = 0", "put 2 7 2 63 = 1", "terms 4 8 = 0", "terms 0 50 = 0");
        String[] words = {"person", "hour", "fact", "with", "worth", "today", "mood"};
        int[] values = {2, 7, 4, 3, 63, 50, 8};
        String law = "lends loan * 100 + days + 201";
        Check.law(x, law, 0);
        Check.run(x, "force 0 = -1", "hour 2 7 6 = 100");
        for (int i = 0; i < words.length; i++) {
            PawnedHours y = Check.withPeople(4);
            Check.run(y, "put 2 7 0 4 = -1", "put 2 7 1 11 = 0", "put 2 7 2 63 = 1", "terms 4 8 = 0", "terms 0 50 = 0");
            Check.law(y, "lends 100 + " + words[i] + ";costs 200 + " + words[i] + ";bars if not " + words[i] + "="
                + values[i] + " and not " + words[i] + " = " + (values[i] + 1), 0);
            y.force(0);
            Check.due(words[i] + " of what is lent", y.hour(2, 7, 6), 100 + values[i]);
            Check.due(words[i] + " of what bars", y.hour(2, 7, 8), 0);
            Check.due("pawn", y.pawn(2, 7), 100 + values[i]);
            Check.due(words[i] + " of what it costs", y.hour(2, 7, 7), 200 + values[i]);
        }
        PawnedHours z = Check.withPeople(1);
        Check.law(z, "lends 20 + fact;costs loan * 1000 + days;bars if loan > 0-1 or days > 0-1", 0);
        Check.run(z, "force 0 = -1", "hour 0 0 6 = 19", "hour 0 0 8 = 0", "pawn 0 0 = 19", "pass = 1", "pass = 2",
            "hour 0 0 7 = 9999");
        Check.law(z, "costs loan * 100 + days", 1);
        Check.run(z, "force 1 = 0", "hour 0 0 7 = 1902", "hour 0 0 4 = 19", "hour 0 0 5 = 2");
        Check.law(z, "costs 0 - 7", 2);
        Check.run(z, "force 2 = 1", "hour 0 0 7 = 0", "redeem 0 0 = 0");
    }

    private static void lastThatHolds() {
        lends("4;lends 5", 5);
        lends("4;lends 5 if 1 = 2", 4);
        lends("4;lends 5/0", 4);
        lends("4;lends 5 if 1/0 = 1", 4);
        lends("4 if 1 = 2;costs 9;bars if 1 = 2", 1);
        lends("4;costs 5", 4);
        PawnedHours x = Check.withPeople(1);
        Check.law(x, "bars if 1 = 1;bars if 1 = 2", 0);
        Check.law(x, "bars;lends 7", 1);
        Check.law(x, "bars if 1/0 = 0", 2);
        Check.run(x, "force 0 = -1", "hour 0 0 8 = 1", "pawn 0 0 = -3", "force 1 = 0", "hour 0 0 8 = 1",
            "hour 0 0 6 = 7", "pawn 0 0 = -3", "force 2 = 1", "hour 0 0 8 = 0", "force -1 = 2", "hour 0 0 8 = 0",
            "hour 0 0 6 = 1", "pawn 0 0 = 1");
    }

    private static void ordersRun() {
        PawnedHours x = Check.withPeople(2);
        Check.orders(x, "pass", 1);
        Check.run(x, "count 12 = 1", "of 0 0 = 5", "status = 0", "stopped = -1", "fault = -1", "count 4 = 1");
        Check.orders(x, "pass times 20;pass times 3 if now < 23", 22);
        Check.run(x, "count 12 = 23", "count 4 = 16", "of 1 0 = 115");
        Check.orders(x, "pass if 1 = 2;pass times 20 if 1/0 = 1;pawn 99 of 99 if 1 = 2", 0);
        Check.run(x, "count 12 = 23", "status = 0");
        Check.orders(x, "pawn 3 of 1;pawn 4 of 1;redeem 3 of 1;redeem 7 / 2 + 1 of [2 - 1]", 4);
        Check.run(x, "of 1 1 = 12", "of 1 0 = 115", "undo = 1", "undo = 1", "undo = 0", "undo = 0", "undo = 2");
        // A pawned hour can't be pawned again, so only the first time is asked for.
        Check.orders(x, "pawn 0 of 0 times 5 if held 0 = 12", 1);
        Check.run(x, "of 0 1 = 11", "hour 0 0 3 = 1");
        Check.orders(x, "pawn done + 1 of 0 times 11", 11);
        Check.run(x, "of 0 1 = 0", "of 0 2 = 12", "count 4 = 16");
        PawnedHours z = new PawnedHours();
        Check.orders(z, "pass;pass", 2);
        Check.run(z, "count 12 = 2");
    }

    private static void ordersWords() {
        PawnedHours x = Check.withPeople(2);
        Check.run(x, "terms 0 6 = 0", "give 0 70 = 0", "put 0 0 2 30 = 1", "put 0 1 0 3 = -1", "put 1 2 0 7 = -1");
        Check.orders(x, "pass if now = 6 and done = 0 and last = 0-1 and purse 0 = 70 and held 0 = 12", 1);
        Check.orders(x, "pass if knows 0 3 = 1 and knows 0 2 = 0 and knows 1 7 = 1 and knows 2 0 = 0-1", 1);
        Check.orders(x, "pass if purse 5 = 0-1 and held 2 = 0-1 and knows 5 7 = 0-1 and now = 8", 1);
        Check.orders(x, "pawn 0 of 0;pass if last = 30 and done = 1 and purse 0 = 115 and held 0 = 11;"
            + "pass if last = 30 and done = 2 and purse 0 = 120 and purse 1 = 20 and now = 10;"
            + "redeem 0 of 0 if purse 0 = 125;pass if last = 32 and held 0 = 12 and purse 0 = 93 and done = 4", 5);
        Check.run(x, "count 12 = 12", "of 0 0 = 98");
        Check.orders(x, "pawn 1 of 0;pass if knows 0 3 = 0 and done = 1;redeem 1 of 0;pass if knows 0 3 = 1", 4);
        // A new text knows nothing of what earlier ones lent or ran.
        Check.orders(x, "pass if last = 0-1 and done = 0", 1);
        Check.orders(x, "pawn held 0 - 1 of purse 1 - purse 1 + 1", 1);
        Check.run(x, "hour 1 11 3 = 1");
    }

    private static void ordersStop() {
        PawnedHours x = Check.withPeople(1);
        Check.run(x, "pawn 0 0 = 1", "count 4 = 1");
        Check.orders(x, "pass;pass times 20;pawn 1 of 0;pawn 1 of 0", -3);
        Check.run(x, "status = -3", "stopped = 3", "fault = -1", "count 12 = 0", "of 0 0 = 1", "of 0 1 = 11",
            "count 4 = 1", "count 5 = 0", "count 8 = 1", "count 1 = 1");
        Check.orders(x, "pawn 12 of 0", -3);
        Check.run(x, "stopped = 0", "count 6 = 0");
        Check.orders(x, "pass;pawn 0 - 1 of 0", -3);
        Check.run(x, "stopped = 1");
        Check.orders(x, "pawn 1 of 1", -3);
        Check.run(x, "stopped = 0", "count 7 = 0");
        Check.orders(x, "pawn 1 of 0 - 1", -3);
        Check.orders(x, "pawn 1 / 0 of 0", -3);
        Check.orders(x, "pawn 1 of 0 / 0", -3);
        Check.orders(x, "redeem 1 of 0", -3);
        Check.orders(x, "pass;redeem 0 of 0 times 2", -3);
        Check.run(x, "stopped = 1", "hour 0 0 3 = 1", "count 12 = 0", "undo = 0", "undo = -3");
        Check.run(x, "terms 0 998 = 0");
        Check.orders(x, "pass times 2", -3);
        Check.run(x, "stopped = 0", "count 12 = 998");
        Check.orders(x, "pass times 20 if now < 999", 1);
        Check.run(x, "stopped = -1", "count 12 = 999");
        Check.orders(x, "pass", -3);
        Check.orders(x, "pass ^", -6);
        Check.run(x, "stopped = -1", "fault = 5", "image 0 = 0", "back 0 = 0", "fault = 5");
        Check.orders(x, "pass", -3);
        Check.run(x, "back 0 = 0", "stopped = 0", "fault = -1");
        Check.law(x, "lends", -6);
        Check.run(x, "stopped = 0", "fault = 5");
        // Sixteen deeds are kept, and all of them are there again behind orders that could not be.
        PawnedHours y = Check.withPeople(2);
        for (int hour = 0; hour < 12; hour++) {
            y.pawn(0, hour);
        }
        Check.run(y, "terms 2 1 = 9", "pawn 1 0 = 1", "pawn 1 1 = 1", "count 4 = 2");
        Check.orders(y, "pass times 20;pawn 0 of 0", -3);
        Check.run(y, "count 4 = 2", "undo = 0", "hour 1 1 3 = 0", "undo = 0", "hour 1 0 3 = 0", "undo = -3");
    }

    private static void force() {
        PawnedHours x = Check.withPeople(1);
        Check.run(x, "force 0 = -2", "status = -2", "force -1 = -1", "status = 0", "force -2 = -2");
        Check.law(x, "lends 5", 0);
        Check.law(x, "lends 6", 1);
        Check.run(x, "hour 0 0 6 = 1", "force 1 = -1", "hour 0 0 6 = 6", "force 0 = 1", "hour 0 0 6 = 5",
            "force 2 = -2", "count 11 = 0", "count 7 = 3", "pawn 0 0 = 5", "force -1 = 0", "status = 0",
            "count 11 = -1", "count 4 = 1", "hour 0 0 7 = 5", "undo = 0", "pawn 0 0 = 1");
    }
}
