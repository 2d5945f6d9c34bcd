/** The edges that Terms 2 name: what each KIND does, a TURN, THE DAY. */
public final class TurnsEdgesTest {
    private static void edge(String sentence, String... lines) {
        Script.edge(sentence, lines);
    }

    private static void kinds() {
        edge("BUYERS are of KINDS: 0 to 6", "buyer -1 0 0 = NONE, buyer 7 0 0 = NONE, buyer MIN 0 0 = NONE",
            "buyer MAX 0 0 = NONE, count 0 = 0, buyer 0 0 0 = 0, buyer 6 0 0 = 1, of 0 0 = 0, of 1 0 = 6");
        edge("with a number v (0 .. 9)", "buyer 0 -1 0 = BAD, buyer 0 10 0 = BAD, buyer 0 MIN 0 = BAD",
            "buyer 0 MAX 0 = BAD, count 0 = 0, buyer 0 0 0 = 0, buyer 0 9 0 = 1, of 0 1 = 0, of 1 1 = 9");
    }

    private static void plainOnes() {
        edge("GAIN of a yes over a no: VALUE, COST and fee, together, less PRICE",
            "open more 1 b<9;cost 2 b<9;fee 3 = 0, buyer 0 0 4, buyer 0 0 3, set 0 10, would 0 = 1, would 1 = 2");
        edge("BUYER: YES, if that is 0 or more; else NO",
            "buyer 0 9 5, buyer 0 9 4, set 0 5, would 0 = 1, would 1 = 2, go = 1, set 0 5, go = 2");
        edge("BUYER at the ends of WORTH and PRICE",
            "buyer 0 0 0, buyer 0 0 99, set 0 0, would 0 = 1, would 1 = 1, set 0 1, would 0 = 2, set 0 99",
            "would 1 = 1, set 0 100, would 1 = 2, set 0 999, would 0 = 2, would 1 = 2");
        edge("PLAIN: YES, if it is v or more; else NO",
            "buyer 1 0 5, buyer 1 0 4, buyer 1 9 14, buyer 1 9 13, buyer 1 1 6, buyer 1 1 5, set 0 5",
            "would 0 = 1, would 1 = 2, would 2 = 1, would 3 = 2, would 4 = 1, would 5 = 2");
        edge("PLAIN: GAIN is told with COST and fee",
            "open cost 2 b<9;fee 3 = 0, buyer 1 4 9, buyer 1 4 8, set 0 10, would 0 = 1, would 1 = 2");
        edge("SURE: YES, if LOAVES are v or fewer", "buyer 4 5 0, set 0 999, set 1 5, would 0 = 1, set 1 6, would 0 = 2",
            "set 1 4, would 0 = 1, set 1 0, would 0 = 1");
        edge("SURE with v 0 and 9", "buyer 4 0 0, buyer 4 9 0, set 0 999, set 1 1, would 0 = 2, set 1 9, would 0 = 2",
            "would 1 = 1, set 1 0, would 0 = 1");
        edge("SURE: else as PLAIN", "buyer 4 3 10, set 1 4, set 0 7, would 0 = 1, set 0 8, would 0 = 2");
    }

    private static void waitingOnes() {
        edge("WAITING: AWAY, if VALUE is below PRICE", "buyer 2 0 5, buyer 2 0 4, buyer 2 9 6, set 0 5, would 0 = 1",
            "would 1 = 3, would 2 = 1, set 0 6, would 0 = 3, would 2 = 1");
        edge("WAITING: by VALUE alone, whatever COST and fee are",
            "open cost 9 b<9;fee 9 = 0, buyer 2 0 4, set 0 5, would 0 = 3, set 0 4, would 0 = 1");
        edge("WAITING: VALUE with all more", "open more 1 b=0 = 0, buyer 2 0 4, buyer 2 0 4, set 0 5, would 0 = 1",
            "would 1 = 3");
        edge("WAITING: and AWAYS are below away", "open away 2 = 0, buyer 2 0 4, set 0 5, would 0 = 3, go = 3",
            "of 0 4 = 1, would 0 = 3, go = 3, of 0 4 = 2, would 0 = 2, open away 3 = 1, would 0 = 3");
        edge("WAITING with away 0: else as BUYER",
            "open away 0 = 0, buyer 2 0 4, set 0 5, would 0 = 2, open away 0;fee 1 = 1, would 0 = 1");
        edge("WAITING with more AWAYS than away", "open away 3 = 0, buyer 2 0 4, set 0 5, go = 3, go = 3",
            "open away 1 = 1, would 0 = 2, open away 2 = 2, would 0 = 2, open away 3 = 3, would 0 = 3");
        edge("LATE: AWAY, if v or more others are in THE ROW",
            "buyer 5 0 9, buyer 5 1 9, would 0 = 3, would 1 = 3, buyer 5 2 9, would 2 = 3, buyer 5 4 9, would 3 = 1",
            "buyer 5 5 9, would 4 = 1, buyer 5 6 9, would 3 = 3, would 4 = 3, would 5 = 1");
        edge("LATE: others are not itself", "buyer 5 0 9, would 0 = 3, go = 3, would 0 = 1");
        edge("LATE with v 1, alone", "buyer 5 1 9, would 0 = 1, buyer 0 0 0, would 0 = 3");
        edge("LATE: one out of THE ROW is no other", "buyer 0 0 9, buyer 5 1 9, would 1 = 3, go = 1, would 1 = 1");
        edge("LATE out of THE ROW: the others are all who stand",
            "buyer 5 2 9, buyer 0 0 0, go = 1, told 8 = 1, would 0 = 1, buyer 0 0 0, would 0 = 3");
        edge("LATE: and AWAYS are below away",
            "open away 1 = 0, buyer 5 1 9, buyer 5 1 9, go = 3, go = 3, would 0 = 1, open away 2 = 1, would 0 = 3");
        edge("LATE: else as WAITING", "buyer 5 9 5, set 0 5, would 0 = 1, set 0 6, would 0 = 3, go = 3, would 0 = 2");
    }

    private static void fallingOnes() {
        edge("FALLING: NO, if PRICE is above v, and its FRIEND is in THE ROW", "buyer 3 5 99, buyer 0 0 0, friend 0 1",
            "set 0 5, would 0 = 1, set 0 6, would 0 = 2, set 0 4, would 0 = 1");
        edge("FALLING with v 0 and 9", "buyer 3 0 99, buyer 3 9 99, friend 0 1, friend 1 0",
            "set 0 0, would 0 = 1, set 0 1, would 0 = 2, set 0 9, would 1 = 1, set 0 10, would 1 = 2");
        edge("FALLING: its FRIEND is nobody, or out of THE ROW",
            "buyer 0 0 9, buyer 3 0 99, set 0 5, would 1 = 1, friend 1 0, would 1 = 2, go = 1, would 1 = 1, back 0",
            "would 1 = 2, friend 1 -1, would 1 = 1");
        edge("FALLING: its FRIEND may stand ahead or last", Script.times("buyer 3 0 99", 6),
            "friend 0 5, friend 5 0, friend 2 3, friend 3 2, would 0 = 2, would 5 = 2, would 2 = 2, would 3 = 2",
            "would 1 = 1, would 4 = 1");
        edge("FALLING: another's FRIEND does not matter",
            "buyer 3 0 99, buyer 3 0 99, friend 1 0, would 0 = 1, would 1 = 2");
        edge("FALLING: else as BUYER", "buyer 3 9 5, buyer 0 0 0, friend 0 1, set 0 5, would 0 = 1, set 0 6, would 0 = 2",
            "friend 0 -1, set 0 5, would 0 = 1, set 0 6, would 0 = 2");
        edge("TOLD: what its ROW of three tells for PRICE modulo 3",
            "buyer 6 0 0, row 0 0 1, row 0 1 2, row 0 2 3, set 0 0, would 0 = 1, set 0 1, would 0 = 2, set 0 2",
            "would 0 = 3, set 0 3, would 0 = 1, set 0 997, would 0 = 2, set 0 998, would 0 = 3, set 0 999, would 0 = 1");
        edge("TOLD: YES at any price, NO at any", "buyer 6 0 0, buyer 6 0 99, row 0 0 1, row 1 0 2, set 0 999, would 0 = 1",
            "set 0 0, would 1 = 2");
        edge("TOLD: 0: as FALLING", "buyer 6 3 99, buyer 0 0 0, set 0 3, would 0 = 1, set 0 4, would 0 = 1, friend 0 1",
            "would 0 = 2, set 0 3, would 0 = 1, set 0 100, friend 0 -1, would 0 = 2, set 0 99, would 0 = 1");
        edge("TOLD: 0 at first", "buyer 6 0 0, of 0 8 = 0, set 0 0, would 0 = 1, set 0 1, would 0 = 2, set 0 2, would 0 = 2");
        edge("TOLD: of 3 only if AWAYS are below away", "open away 2 = 0, buyer 6 0 99, row 0 1 3, would 0 = 3, go = 3",
            "would 0 = 3, go = 3, would 0 = 1, open away 3 = 1, would 0 = 3, open away 0 = 2, would 0 = 1");
        edge("TOLD: of 3, else as FALLING", "open away 0 = 0, buyer 6 0 99, buyer 0 0 0, row 0 1 3, would 0 = 1",
            "friend 0 1, would 0 = 2, friend 0 -1, set 0 100, would 0 = 2");
    }

    private static void turns() {
        edge("A TURN (if THE ROW has one)", "go = 0, told 7 = 0, told 4 = 1, buyer 0 0 9, go = 1, go = 0, told 7 = 1");
        edge("A TURN (if LOAVES are above 0)", "buyer 0 0 9, buyer 0 0 9, set 1 0, go = 0, told 7 = 0, told 8 = 2",
            "set 1 1, go = 1, go = 0, told 8 = 1, told 7 = 1");
        edge("YES: it pays PRICE to THE TILL, LOAVES are 1 less, it has GAINED VALUE less PRICE, and leaves THE ROW",
            "open more 3 b=0;cost 50 b=0;fee 9 = 0, buyer 0 0 9, buyer 0 0 9, set 0 4, go = 1, told 6 = 4, told 5 = 4",
            "gained 0 = 8, gained 1 = 0, of 0 5 = -5, of 1 5 = 0, told 8 = 1, of 0 4 = 0");
        edge("YES at PRICE 0 and 999", "buyer 4 9 99, buyer 4 9 0, set 0 0, go = 1, told 6 = 0, gained 0 = 99, set 0 999",
            "go = 1, told 6 = 999, gained 1 = -999");
        edge("PRICE is up more (999 at most)", "set 1 9, " + Script.times("buyer 4 9 0", 6),
            "set 0 998, go = 1, told 4 = 999, go = 1, told 4 = 999, open up 2 = 0, set 0 997, go = 1, told 4 = 999",
            "set 0 998, go = 1, told 4 = 999, open up 99 = 1, set 0 899, go = 1, told 4 = 998, set 0 901, go = 1",
            "told 4 = 999");
        edge("NO: it pays fee to THE TILL, it has GAINED less by COST and fee, and leaves",
            "open cost 3 b=0;cost 4 b=0;fee 5;down 6;more 2 b=0;up 9 = 0, buyer 1 9 0, buyer 0 0 0, set 0 7, go = 2",
            "told 6 = 5, gained 0 = -12, told 5 = 5, told 8 = 1, of 0 5 = -5, told 4 = 6, of 0 4 = 0");
        edge("NO without COST and fee", "set 0 7, buyer 0 0 0, go = 2, told 6 = 0, gained 0 = 0, told 4 = 1");
        edge("PRICE is down (or half): down above PRICE", "open down 9 = 0, buyer 1 9 0, set 0 1, go = 2, told 4 = 9");
        edge("AWAY: it goes to the end, its AWAYS are 1 more, PRICE stays",
            "open fee 3;up 4;down 5;cost 6 b=0 = 0, " + Script.times("buyer 2 0 0", 3),
            "set 0 50, go = 3, of 0 5 = 2, of 1 5 = 0, of 2 5 = 1, of 0 4 = 1, of 1 4 = 0, told 4 = 50, told 6 = 0",
            "told 5 = 5, gained 0 = 0, told 8 = 3");
        edge("AWAY of one alone", "buyer 2 0 0, set 0 50, go = 3, of 0 5 = 0, told 9 = 0, told 8 = 1, of 0 4 = 1");
        edge("AWAY of one among six", "buyer 2 0 0, set 0 50, " + Script.times("buyer 0 0 0", 5),
            "go = 3, of 0 5 = 5, told 9 = 1, told 8 = 6");
        edge("All told by how it was as the TURN began: YES",
            "open more 1 r=2;more 2 l=1;more 4 p=3;more 8 f=1;more 16 a=0 = 0, buyer 0 0 0, buyer 0 0 0, friend 0 1",
            "set 1 1, set 0 3, go = 1, gained 0 = 28");
        edge("All told by how it was as the TURN began: NO",
            "open cost 1 r=2;cost 2 l=1;cost 4 p=99;cost 8 f=1;cost 16 a=0 = 0, buyer 0 0 0, buyer 0 0 0, friend 0 1",
            "set 1 1, set 0 99, go = 2, gained 0 = -31");
        edge("All told by how it was as the TURN began: what it does",
            "open more 50 r=2 = 0, buyer 0 0 0, buyer 0 0 0, set 0 50, go = 1, set 0 1, go = 2");
        edge("TURNS are 1 more: YES, NO and AWAY",
            "buyer 0 0 9, go = 1, told 7 = 1, buyer 1 9 0, go = 2, told 7 = 2, buyer 2 0 0, go = 3, told 7 = 3, go = 2",
            "told 7 = 4, go = 0, told 7 = 4");
    }

    private static void day() {
        edge("THE DAY to its end: TURNS till THE ROW is empty",
            "buyer 0 0 9, buyer 1 9 0, buyer 2 0 0, run 12 = 4, run 10 = 1, run 13 = 1, run 11 = 1, go = 1, run 12 = 4",
            "go = 2, go = 3, run 12 = 4, go = 2, run 12 = 4, go = 0");
        edge("THE DAY to its end: or LOAVES are 0", Script.times("buyer 0 0 9", 3),
            "set 1 2, run 12 = 2, run 13 = 3, run 10 = 3, run 11 = 3, set 1 0, run 12 = 0, run 13 = 0, run 11 = 1");
        edge("THE DAY to its end, with nobody", "run 10 = 0, run 11 = 1, run 12 = 0, run 13 = 0");
        edge("THE DAY to its end: each goes away as often as it may",
            "open away 9 = 0, " + Script.times("buyer 2 0 0", 6), "set 0 999, run 12 = 60, run 11 = 1, run 13 = 0");
    }

    public static void main(String[] args) {
        kinds();
        plainOnes();
        waitingOnes();
        fallingOnes();
        turns();
        day();
        Script.end();
    }
}
