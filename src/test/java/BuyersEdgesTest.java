/** The edges that Terms 1 name: who stands, numbers and their limits, and a SHOP's text. */
public final class BuyersEdgesTest {
    private static void edge(String sentence, String... lines) {
        Script.edge(sentence, lines);
    }

    private static void buyers() {
        edge("BUYERS 0 .. 5, as they come",
            "of 0 0 = -10001, buyer 6 0 0 = 0, of 1 0 = -10001, buyer 5 0 0 = 1, buyer 4 0 0 = 2, buyer 3 0 0 = 3",
            "buyer 2 0 0 = 4, of 5 0 = -10001, buyer 1 0 0 = 5, buyer 0 0 0 = FULL, count 0 = 6",
            "of -1 0 = -10001, of 0 0 = 6, of 4 0 = 2, of 5 0 = 1, of 6 0 = -10001");
        edge("BUYERS 0 .. 5: one that has left keeps its number",
            "set 1 9 = 5, " + Script.times("buyer 0 0 99", 6), Script.times("go = 1", 6) + ", go = 0, told 8 = 0",
            "count 0 = 6, buyer 0 0 0 = FULL, of 5 2 = 99, back 0 = 0, of 0 5 = 0");
        edge("WORTH (0 .. 99)",
            "buyer 0 0 0 = 0, buyer 0 0 99 = 1, buyer 0 0 -1 = BAD, buyer 0 0 100 = BAD, buyer 0 0 MIN = BAD",
            "buyer 0 0 MAX = BAD, of 0 2 = 0, of 1 2 = 99, count 0 = 2, told 8 = 2");
        edge("a FRIEND (another BUYER, or nobody)",
            "buyer 0 0 0, of 0 3 = -5, friend 0 0 = BAD, friend 0 1 = NONE, friend 0 -1 = -5, buyer 0 0 0",
            "friend 0 1 = -5, friend 1 0 = -5, of 0 3 = 1, of 1 3 = 0, friend 0 0 = BAD, of 0 3 = 1");
        edge("AWAYS (how often it went to the end; 0 at first)",
            "buyer 2 0 0, of 0 4 = 0, set 0 9, go = 3, of 0 4 = 1, go = 2, of 0 4 = 1");
        edge("what it has GAINED (0 at first)", "gained 0 = -100001, buyer 0 0 9, gained 0 = 0, go = 1, gained 0 = 8");
        edge("THE ROW: those who stand, the HEAD first",
            "told 8 = 0, told 9 = -5, buyer 0 0 9, told 8 = 1, told 9 = 0, of 0 5 = 0, buyer 0 0 9, told 9 = 0",
            "of 1 5 = 1, go = 1, told 9 = 1, of 0 5 = -5, of 1 5 = 0, go = 1, told 8 = 0, told 9 = -5, of 1 5 = -5");
        edge("each comes to its end",
            Script.times("buyer 0 0 9", 3), "go = 1, of 1 5 = 0, of 2 5 = 1, back 0 = 2, of 0 5 = 2",
            "buyer 0 0 9 = 3, of 3 5 = 3, told 9 = 1");
        edge("PRICE (0 .. 999; 1 at first)",
            "told 4 = 1, set 0 0 = 1, told 4 = 0, set 0 999 = 0, told 4 = 999, set 0 -1 = BAD, set 0 1000 = BAD",
            "set 0 MIN = BAD, set 0 MAX = BAD, told 4 = 999, set 0 998 = 999");
        edge("LOAVES (0 .. 9; 5 at first)",
            "told 5 = 5, set 1 0 = 5, told 5 = 0, set 1 9 = 0, told 5 = 9, set 1 -1 = BAD, set 1 10 = BAD",
            "set 1 MIN = BAD, set 1 MAX = BAD, told 5 = 9, set 1 8 = 9");
        edge("LOAVES are at least 0: none is sold beyond the last",
            "set 1 1, buyer 0 0 9, buyer 0 0 9, go = 1, told 5 = 0, go = 0, told 5 = 0, told 8 = 1, run 13 = 0");
        edge("THE TILL (what the baker took; 0 at first)", "told 6 = 0, set 0 7, buyer 0 0 9, go = 1, told 6 = 7");
        edge("TURNS gone (0 at first)", "told 7 = 0, go = 0, told 7 = 0, buyer 0 0 9, go = 1, told 7 = 1");
    }

    private static void text() {
        edge("THE TEXT (bytes, 100 at most)",
            Script.times("feed 40", 98) + ", feed 0 = 99, feed 127 = 100, feed 40 = FULL, count 3 = 100, shop = -10",
            "count 3 = 0, feed 40 = 1");
        edge("THE TEXT of 100 bytes is read to its last",
            "buyer 0 0 4, open more 11 " + Script.repeat("p=0|", 22) + "p=01 = 0, of 0 6 = 15",
            "open more 11 " + Script.repeat("p=0|", 22) + "p=0! = -109, of 0 6 = 15");
        edge("CLAUSES, 1 to 10: none", "shop = -10, count 1 = 0");
        edge("CLAUSES, 1 to 10: one", "open up 3 = 0, told 0 = 3");
        edge("CLAUSES, 1 to 10: ten", "open " + Script.repeat("up 1;", 9) + "up 4 = 0, told 0 = 4");
        edge("CLAUSES, 1 to 10: eleven",
            "open " + Script.repeat("up 1;", 10) + "up 4 = -59, count 1 = 0, told 0 = 1",
            "open " + Script.repeat("up 1;", 10) + " = -59, count 1 = 0");
        edge("nine clauses of E count, the first and the last", "buyer 0 0 4, open more 1 b=0;"
            + Script.repeat("more 2 b=0;", 7) + "more 3 b=0 = 0, of 0 6 = 22");
        edge("with ; between", "open ;up 2 = -10, open up 2; = -15, open up 2;;up 2 = -15, open up 2up 2 = -14",
            "open up 2 ;up 2 = -14, open up 2; up 2 = -15, told 0 = 1, open up 2;up 3 = 0, told 0 = 3");
        edge("one blank ahead of each part behind the word",
            "open up2 = -12, open up  2 = -13, open down1 = -14, open down  1 = -15, open away1 = -14",
            "open away  1 = -15, open fee1 = -13, open fee  1 = -14, open more1 b=0 = -14, open more  1 b=0 = -15",
            "open more 1b=0 = -16, open more 1  b=0 = -17, open cost1 b=0 = -14, open cost  1 b=0 = -15",
            "open cost 1b=0 = -16, open cost 1  b=0 = -17, open  up 1 = -10, open up 1  = -14, count 1 = 0");
        edge("one blank there, none within E",
            "open more 1 b =0 = -18, open more 1 b= 0 = -19, open more 1 b=0 |b=1 = -20, open more 1 b=0| b=1 = -21",
            "open more 1 (b=0 ) = -21, open more 1 ! b=0 = -18, count 1 = 0");
        edge("n 1 or 2 digits", "open up  = -13, open up x = -13, open up -1 = -13, open up 100 = -15",
            "open up 0 = 0, told 0 = 0, open up 9 = 1, told 0 = 9, open up 10 = 2, told 0 = 10, open up 99 = 3",
            "told 0 = 99, open up 00 = 4, told 0 = 0, open up 09 = 5, told 0 = 9");
        edge("n 1 or 2 digits, in more and cost",
            "buyer 0 0 4, open more  b=0 = -15, open more 100 b=0 = -17, open cost  b=0 = -15, open cost 100 b=0 = -17",
            "open more 0 b=0;cost 0 b=0 = 0, of 0 6 = 4, of 0 7 = 0",
            "open more 99 b=0;cost 99 b=0 = 1, of 0 6 = 103, of 0 7 = 99",
            "open more 05 b=0;cost 06 b=0 = 2, of 0 6 = 9, of 0 7 = 6");
        edge("digits are 0 to 9, not what stands beside them",
            "open up / = -13, open up : = -13, open up 1/ = -14, open up 1: = -14, open more 1 b=/ = -19",
            "open more 1 b=: = -19, open more 1 b=1/ = -20, open more 1 b=1: = -20");
    }

    /** A number as a TEST measures it: each relation just below, at and just above it. */
    private static void tested(String sentence, String setup, String letter, int buyer, int measure, int worth) {
        Script s = new Script(sentence, setup);
        String value = "of " + buyer + " 6 = ";
        int holds = worth + 9;
        s.go("open more 9 " + letter + "=" + measure + " = 0, " + value + holds,
            "open more 9 " + letter + "<" + measure + " = 1, " + value + worth,
            "open more 9 " + letter + ">" + measure + " = 2, " + value + worth);
        s.go("open more 9 " + letter + "=" + (measure + 1) + " = 3, " + value + worth,
            "open more 9 " + letter + "<" + (measure + 1) + " = 4, " + value + holds);
        if (measure > 0) {
            s.go("open more 9 " + letter + ">" + (measure - 1) + " = 5, " + value + holds);
        }
    }

    private static void tests() {
        String six = "buyer 6 0 1, " + Script.times("buyer 0 0 1", 5);
        tested("b the BUYER's number: 0", six, "b", 0, 0, 1);
        tested("b the BUYER's number: 5", six, "b", 5, 5, 1);
        tested("k its KIND: 0", six, "k", 1, 0, 1);
        tested("k its KIND: 6", six, "k", 0, 6, 1);
        tested("p PRICE: 0", "buyer 0 0 1, set 0 0", "p", 0, 0, 1);
        tested("p PRICE: 98", "buyer 0 0 1, set 0 98", "p", 0, 98, 1);
        edge("p PRICE: 99 and more", "buyer 0 0 1, set 0 99, open more 9 p=99 = 0, of 0 6 = 10",
            "set 0 100, of 0 6 = 1, open more 9 p>99 = 1, of 0 6 = 10, set 0 99, of 0 6 = 1, set 0 999, of 0 6 = 10",
            "open more 9 p<99 = 2, of 0 6 = 1, set 0 99, of 0 6 = 1, set 0 98, of 0 6 = 10");
        tested("l LOAVES: 0", "buyer 0 0 1, set 1 0", "l", 0, 0, 1);
        tested("l LOAVES: 9", "buyer 0 0 1, set 1 9", "l", 0, 9, 1);
        tested("r how many are in THE ROW: none", "buyer 0 0 1, go = 1, told 8 = 0", "r", 0, 0, 1);
        tested("r how many are in THE ROW: all", six, "r", 0, 6, 1);
        tested("r how many are in THE ROW: those who left are not", six + ", go = 1", "r", 0, 5, 1);
        tested("a its AWAYS: 0", "buyer 0 0 1", "a", 0, 0, 1);
        Script nine = new Script("a its AWAYS: 9", "buyer 2 0 1, set 0 50, open away 9 = 0");
        nine.go(Script.times("go = 3", 9), "open more 9 a=9 = 1, of 0 6 = 10, open more 9 a<9 = 2, of 0 6 = 1",
            "open more 9 a>9 = 3, of 0 6 = 1, open more 9 a>8 = 4, of 0 6 = 10, open more 9 a<10 = 5, of 0 6 = 10");
        tested("a its AWAYS: its own", "buyer 2 0 1, buyer 0 0 1, set 0 50, go = 3", "a", 0, 1, 1);
        tested("a its AWAYS: not another's", "buyer 2 0 1, buyer 0 0 1, set 0 50, go = 3", "a", 1, 0, 1);
        tested("f 1, if its FRIEND is in THE ROW", "buyer 0 0 1, buyer 0 0 1, friend 0 1", "f", 0, 1, 1);
        tested("f else 0: nobody", "buyer 0 0 1, buyer 0 0 1, friend 0 1", "f", 1, 0, 1);
        tested("f else 0: the FRIEND is out of it", "buyer 0 0 1, buyer 0 0 1, friend 1 0, go = 1", "f", 1, 0, 1);
        tested("f: whether the BUYER itself stands does not matter",
            "buyer 0 0 1, buyer 0 0 1, friend 0 1, go = 1", "f", 0, 1, 1);
        edge("a TEST: a letter, < or = or >, a number (1 or 2 digits)",
            "open more 1  = -17, open more 1 c=0 = -17, open more 1 B=0 = -17, open more 1 =0 = -17",
            "open more 1 0=0 = -17, open more 1 bb=0 = -18, open more 1 b = -18, open more 1 b0 = -18",
            "open more 1 b== = -19, open more 1 b<=0 = -19, open more 1 b<> = -19, open more 1 b= = -19",
            "open more 1 b=b = -19, open more 1 b=100 = -21, open more 1 b=-1 = -19, count 1 = 0",
            "buyer 0 0 1, open more 1 b=00 = 0, of 0 6 = 2, open more 1 b<99 = 1, of 0 6 = 2");
    }

    /** Each letter, each relation, each number of two digits, for two BUYERS of whom the letters measure something else. */
    private static void allTests() {
        String letters = "bkplraf";
        int[] threes = {3, 2, 57, 8, 5, 2, 1};
        int[] noughts = {0, 0, 57, 8, 5, 0, 0};
        for (int letter = 0; letter < letters.length(); letter++) {
            for (int number = 0; number < 100; number++) {
                Script s = new Script("a TEST: each letter, each relation, each number",
                    Script.times("buyer 0 0 1", 3) + ", buyer 2 0 1, buyer 0 0 1, friend 3 1, open away 2;down 50 = 0, set 0 50",
                    "go = 2, go = 2, go = 2, go = 3, go = 2, go = 3, back 0 = 1, back 1 = 2, back 2 = 3, back 4 = 4, set 0 57",
                    "set 1 8, told 8 = 5, of 3 4 = 2");
                for (int relation = 0; relation < 3; relation++) {
                    s.open("more 9 " + letters.charAt(letter) + "<=>".charAt(relation) + number, 1 + relation);
                    s.go("of 3 6 = " + (holds(threes[letter], relation, number) ? 10 : 1));
                    s.go("of 0 6 = " + (holds(noughts[letter], relation, number) ? 10 : 1));
                }
            }
        }
    }

    private static boolean holds(int measure, int relation, int number) {
        return relation == 0 ? measure < number : relation == 1 ? measure == number : measure > number;
    }

    private static void nesting() {
        edge("A ( or ! within 4 others is none: four (",
            "buyer 0 0 1, open more 1 ((((b=0)))) = 0, of 0 6 = 2, open more 1 (((((b=0))))) = -21, of 0 6 = 2");
        edge("A ( or ! within 4 others is none: four !",
            "buyer 0 0 1, open more 1 !!!!b=0 = 0, of 0 6 = 2, open more 1 !!!!!b=1 = -21, of 0 6 = 2",
            "open more 1 !!!b=1 = 1, of 0 6 = 2");
        edge("A ( or ! within 4 others is none: both count", "buyer 0 0 1",
            "open more 1 !(!(b=0)) = 0, of 0 6 = 2, open more 1 (!(!b=0)) = 1, of 0 6 = 2",
            "open more 1 !(!((b=0))) = -21, open more 1 !(!(!b=0)) = -21, open more 1 (!(!(b=0))) = -21",
            "open more 1 (!(!!b=0)) = -21, of 0 6 = 2");
        edge("A ( or ! within 4 others is none: one that has ended is not around",
            "buyer 0 0 1, open more 1 ((((b=0))))&((((b=0)))) = 0, of 0 6 = 2",
            "open more 1 !!!!b=0&!!!!b=0 = 1, of 0 6 = 2, open more 1 (((b=1|(b=0))|(b=1))|((b=1))) = 2, of 0 6 = 2",
            "open more 1 ((((b=0))))&(((((b=0))))) = -33, open more 1 !!!!b=0|!!!!!b=0 = -29",
            "open more 1 b=1;cost 1 ((((b=0)))) = 3, of 0 7 = 1, of 0 6 = 1");
        edge("A ( or ! within 4 others is none: the fifth's place, ahead of what follows",
            "open more 1 ((((( = -21, open more 1 !!!!! = -21, open more 1 ((((x = -21, open more 1 (((( = -21",
            "open more 1 ((((b=0&( = -25");
    }

    /** What ends too early has its FAULT at its end; a byte that no SHOP has, where it stands. */
    private static void begun(String text) {
        String sentence = "The FAULT: the first byte with which none begins so (the end of THE TEXT, if it ends too early)";
        for (int n = 0; n <= text.length(); n++) {
            String begin = text.substring(0, n);
            String clause = begin.substring(begin.lastIndexOf(';') + 1);
            boolean whole = clause.matches("(up|down|away|fee) \\d\\d?|(more|cost) \\d\\d? [^;]*[<=>]\\d\\d?");
            Script s = new Script(sentence);
            s.open(begin, whole ? 0 : -10 - n);
            s = new Script(sentence);
            s.open(begin + "~", -10 - n);
            if (n < text.length()) {
                s = new Script(sentence);
                s.open(begin + "~" + text.substring(n + 1), -10 - n);
            }
        }
    }

    private static void faults() {
        begun("more 12 b=1|k<22&p>3;cost 4 l=50;up 6;down 77;away 8;fee 99");
        begun("more 1 !r=1|!!a<10&f>0;cost 22 !!!!b=1");
        begun("up 1;up 2;up 3;up 4;up 5;up 6;up 7;up 8;up 9;up 10");
        edge("The FAULT in brackets that stay open", "open more 1 (b=0 = -21, open more 1 (b=0; = -21",
            "open more 1 (b=0;up 1 = -21, open more 1 b=0) = -20, open more 1 (b=0)) = -22, open more 1 () = -18",
            "open more 1 (b=0)(b=0) = -22, open more 1 (b=0)b=0 = -22, open more 1 b=0(b=0) = -20",
            "open more 1 b=0!b=0 = -20, open more 1 (b=0|) = -22, open more 1 b=0&&b=0 = -21",
            "open more 1 b=0||b=0 = -21, open more 1 |b=0 = -17, open more 1 &b=0 = -17, open more 1 ) = -17",
            "count 1 = 0");
        edge("The FAULT in words",
            "open Up 1 = -10, open upp 1 = -12, open u = -11, open mor 1 b=0 = -13, open cots 1 b=0 = -12",
            "open dwn 1 = -11, open awey 1 = -12, open feed 1 = -13, open f = -11, open free 1 = -11, open 1 = -10",
            "open more 1;up 1 = -16, open cost 1;up 1 = -16, open fee 1 b=0 = -15, open up 1|up 1 = -14");
        String long24 = Script.repeat("b=1|", 22) + "b=1!";
        edge("The CLAUSES ahead of a FAULT are gone", "buyer 0 0 7",
            "open more 5 b=0;cost 6 b=0;up 7;down 8;away 9;fee 10;x = -58, of 0 6 = 7, of 0 7 = 0, told 0 = 1",
            "open more 2 b=0 = 0, of 0 6 = 9, of 0 7 = 0, told 0 = 1, told 1 = 1, told 2 = 1, told 3 = 0",
            "open more 1 " + long24 + " = -108, open more 1 " + long24 + " = -108, open more 1 " + long24 + " = -108",
            "open more 3 " + Script.repeat("b=1|", 22) + "b=0 = 1, of 0 6 = 10");
        new Script("The FAULT at a byte of 0 or 127").open("up 1\0", -14).open("\0", -10).open("up 1\177", -14)
            .open("up \0", -13).open("more 1 b=0\0", -20).open("more 1 b\0", -18).open("up 1;\0", -15);
    }

    private static void shops() {
        edge("The newest SHOP holds (6 at most)", "count 1 = 0, open up 2 = 0, told 0 = 2, open fee 3 = 1, told 0 = 1",
            "told 3 = 3, open up 4 = 2, open up 5 = 3, open up 6 = 4, count 1 = 5, open up 7 = 5, told 0 = 7, count 1 = 6",
            "open up 8 = FULL, told 0 = 7, count 1 = 6");
        edge("without one there are no CLAUSES", "buyer 0 0 7, of 0 6 = 7, of 0 7 = 0, told 0 = 1, told 1 = 1",
            "told 2 = 1, told 3 = 0, open up = -12, of 0 6 = 7, told 0 = 1");
        edge("a SHOP's CLAUSES go with it", "buyer 0 0 7, open more 1 b=0;cost 2 b=0;up 3;down 4;away 5;fee 6 = 0",
            "of 0 6 = 8, of 0 7 = 2, open more 9 b=1 = 1, of 0 6 = 7, of 0 7 = 0, told 0 = 1, told 1 = 1, told 2 = 1",
            "told 3 = 0");
        edge("VALUE of a loaf to a BUYER: WORTH, and the n of all more whose E holds, together",
            "buyer 0 0 0, buyer 0 0 99, open more 99 b<9;more 99 b<9;more 99 b<9;more 99 b=1;cost 99 b<9 = 0",
            "of 0 6 = 297, of 1 6 = 495, open more 1 b=2;more 2 b=3 = 1, of 0 6 = 0, of 1 6 = 99");
        edge("COST of a no: the n of all cost whose E holds, together",
            "buyer 0 0 0, buyer 0 0 99, open cost 99 b<9;cost 99 b<9;cost 99 b=1;more 99 b<9 = 0, of 0 7 = 198",
            "of 1 7 = 297, open cost 1 b=2;cost 2 b=3;fee 5 = 1, of 0 7 = 0, of 1 7 = 0");
        edge("T or T|E; F or F&T: & is closer than |", "buyer 0 0 0",
            "open more 1 b=0|b=0&b=1 = 0, of 0 6 = 1, open more 1 b=1&b=0|b=0 = 1, of 0 6 = 1",
            "open more 1 (b=0|b=0)&b=1 = 2, of 0 6 = 0, open more 1 b=1&(b=0|b=0) = 3, of 0 6 = 0",
            "open more 1 !b=0|b=0 = 4, of 0 6 = 1, open more 1 !b=1&b=1 = 5, of 0 6 = 0");
        edge("E in all depths: what waits to be joined is joined",
            "buyer 0 0 0, open more 1 b=1|b=0&(b=1|b=0&(b=1|b=0&(b=1|b=0&(b=1|b=0&b=0)))) = 0, of 0 6 = 1",
            "open more 1 b=1|b=0&(b=1|b=0&(b=1|b=0&(b=1|b=0&(b=1|b=0&b=1)))) = 1, of 0 6 = 0",
            "open more 1 ((((b=0&b=0|b=1)&b=0|b=1)&b=0|b=1)&b=0|b=1) = 2, of 0 6 = 1",
            "open more 1 !(((b=0&b=0|b=1)&b=0|b=1)&b=0|b=1) = 3, of 0 6 = 0");
        edge("up (1 without): how much PRICE is more behind a yes",
            Script.times("buyer 0 0 99", 4), "set 0 5, go = 1, told 4 = 6, open up 0 = 0, go = 1, told 4 = 6",
            "open up 99 = 1, go = 1, told 4 = 105, go = 2");
        edge("down (1 without): what PRICE is behind a no", Script.times("buyer 1 9 0", 4),
            "set 0 500, go = 2, told 4 = 1, open down 99 = 0, go = 2, told 4 = 99, open down 1 = 1, go = 2, told 4 = 1");
        edge("down 0: half of what it was (cut)", "set 1 9, open down 0 = 0, " + Script.times("buyer 1 9 0", 6),
            "set 0 999, go = 2, told 4 = 499, set 0 998, go = 2, told 4 = 499, set 0 2, go = 2, told 4 = 1, go = 2",
            "told 4 = 0, go = 2, told 4 = 0");
        edge("away (1 without; 9 at most)", "told 2 = 1, open away 0 = 0, told 2 = 0, open away 8 = 1, told 2 = 8",
            "open away 9 = 2, told 2 = 9, open away 10 = 3, told 2 = 9, open away 99 = 4, told 2 = 9, open up 1 = 5",
            "told 2 = 1");
        edge("away: how often one may go to the end: once without", "buyer 2 0 0, set 0 9, go = 3, go = 2");
        edge("away 0: never", "open away 0 = 0, buyer 2 0 0, set 0 9, go = 2");
        edge("away 2: twice", "open away 2 = 0, buyer 2 0 0, set 0 9, go = 3, go = 3, go = 2");
        edge("away 99: nine times", "open away 99 = 0, buyer 2 0 0, set 0 9", Script.times("go = 3", 9), "go = 2");
        edge("fee (0 without): what the baker takes for a no", Script.times("buyer 1 9 0", 3),
            "told 3 = 0, set 0 200, go = 2, told 6 = 0, gained 0 = 0, open fee 99 = 0, told 3 = 99, set 0 200, go = 2",
            "told 6 = 99, gained 1 = -99, open fee 0 = 1, told 3 = 0, set 0 200, go = 2, told 6 = 99, gained 2 = 0");
        edge("Of several up, down, away or fee, the last one of each holds",
            "open up 5;down 5;away 5;fee 5;fee 4;away 3;down 2;up 0 = 0, told 0 = 0, told 1 = 2, told 2 = 3, told 3 = 4",
            "open away 99;away 0;fee 9;fee 0;down 9;down 0 = 1, told 2 = 0, told 3 = 0, told 1 = 0");
    }

    public static void main(String[] args) {
        buyers();
        text();
        tests();
        allTests();
        nesting();
        faults();
        shops();
        Script.end();
    }
}
