/** Each promise's refusals: the least and the greatest number allowed, the first beyond, and which is told first. */
public final class RefusalsTest {
    private static final String SIX = Script.times("buyer 0 0 9", 6);

    private static void edge(String sentence, String... lines) {
        Script.edge(sentence, lines);
    }

    private static void newObject() {
        edge("1: Nobody in THE ROW, no SHOP", "told 8 = 0, told 9 = -5, count 0 = 0, count 1 = 0, count 2 = 0, count 3 = 0",
            "count 4 = 0, told 0 = 1, told 1 = 1, told 2 = 1, told 3 = 0, told 4 = 1, told 5 = 5, told 6 = 0, told 7 = 0",
            "slips 0 = 0, undo = STATE, trace 0 = NONE, item 0 0 0 = NOTHING, item 5 0 0 = NOTHING, off = -5");
    }

    private static void buyersAndShops() {
        edge("2: NONE ahead of BAD ahead of FULL", "buyer 7 10 100 = NONE, buyer -1 -1 -1 = NONE, " + SIX,
            "buyer 7 10 100 = NONE, buyer 7 0 0 = NONE, buyer -1 0 0 = NONE, buyer 0 10 0 = BAD, buyer 0 -1 0 = BAD",
            "buyer 0 0 100 = BAD, buyer 0 0 -1 = BAD, buyer 0 0 0 = FULL, buyer 6 9 99 = FULL, count 0 = 6, told 8 = 6");
        edge("3: -10001: NONE", "of 0 0 = -10001, buyer 0 0 0, of 0 0 = 0, of 0 8 = -5, of 0 -1 = -10001, of 0 9 = -10001",
            "of 0 MIN = -10001, of 0 MAX = -10001, of -1 0 = -10001, of 1 0 = -10001, of 5 8 = -10001, of 6 0 = -10001",
            "of MIN 0 = -10001, of MAX 8 = -10001");
        edge("3: 3 FRIEND (-5: nobody), 5 the place in THE ROW (-5)", "buyer 0 0 9, buyer 0 0 9, of 0 3 = -5, friend 1 0",
            "of 1 3 = 0, of 0 5 = 0, of 1 5 = 1, go = 1, of 0 5 = -5, of 1 3 = 0, of 1 5 = 0");
        edge("3: 6 VALUE, 7 COST (as all is)", "open more 1 r=2;cost 2 r=1;cost 4 r=0 = 0, buyer 0 0 9, of 0 6 = 9, of 0 7 = 2",
            "buyer 0 0 9, of 0 6 = 10, of 0 7 = 0, go = 1, of 0 6 = 9, of 0 7 = 2, of 1 7 = 2, go = 1, of 1 7 = 4");
        edge("3: 8 what the ROW of a TOLD one tells", "buyer 6 0 0, of 0 8 = 0, row 0 0 3, of 0 8 = 300, row 0 1 2, of 0 8 = 320",
            "row 0 2 1, of 0 8 = 321, row 0 0 0, of 0 8 = 21");
        edge("3: 8: -5: another KIND", "buyer 0 0 0, buyer 1 0 0, buyer 2 0 0, buyer 3 0 0, buyer 4 0 0, buyer 5 0 0",
            "of 0 8 = -5, of 1 8 = -5, of 2 8 = -5, of 3 8 = -5, of 4 8 = -5, of 5 8 = -5");
        edge("4: -100001: NONE", "gained 0 = -100001, gained -1 = -100001, buyer 0 0 0, gained 0 = 0, gained 1 = -100001",
            "gained -1 = -100001, gained MIN = -100001, gained MAX = -100001");
        edge("5: -1: nobody; who it was (-5)", "buyer 0 0 0, friend 0 -1 = -5, " + Script.times("buyer 0 0 0", 5),
            "friend 0 5 = -5, friend 0 1 = 5, friend 0 -1 = 1, friend 0 -1 = -5, friend 5 0 = -5, friend 5 4 = 0");
        edge("5: NONE ahead of BAD: itself", "friend 0 0 = NONE, friend -1 -1 = NONE, buyer 0 0 0, buyer 0 0 0",
            "friend 2 2 = NONE, friend 6 6 = NONE, friend -1 -1 = NONE, friend -1 0 = NONE, friend 2 -1 = NONE",
            "friend 0 2 = NONE, friend 0 -2 = NONE, friend 0 MIN = NONE, friend 0 MAX = NONE, friend MIN 0 = NONE",
            "friend 0 0 = BAD, friend 1 1 = BAD, of 0 3 = -5, of 1 3 = -5");
        edge("6: NONE ahead of BAD ahead of STATE", "row 0 0 0 = NONE, buyer 6 0 0, buyer 3 0 0, row -1 0 0 = NONE, row 2 0 0 = NONE",
            "row 0 -1 0 = NONE, row 0 3 0 = NONE, row 0 3 4 = NONE, row 1 3 0 = NONE, row 2 0 4 = NONE, row 0 MIN 0 = NONE",
            "row 0 MAX 0 = NONE, row 0 0 -1 = BAD, row 0 0 4 = BAD, row 1 0 4 = BAD, row 1 0 -1 = BAD, row 0 0 MAX = BAD",
            "row 0 0 MIN = BAD, row 1 0 0 = STATE, row 1 2 3 = STATE, of 0 8 = 0, row 0 0 0 = 0, row 0 2 3 = 0, row 0 2 0 = 3");
        edge("6: STATE: it is of another KIND", "buyer 0 0 0, buyer 1 0 0, buyer 2 0 0, buyer 3 0 0, buyer 4 0 0, buyer 5 0 0",
            "row 0 0 1 = STATE, row 1 0 1 = STATE, row 2 0 1 = STATE, row 3 0 1 = STATE, row 4 0 1 = STATE, row 5 0 1 = STATE");
        edge("6: each TOLD one has a ROW of its own", Script.times("buyer 6 0 0", 5) + ", row 0 0 1, row 1 0 2, row 4 2 3",
            "of 0 8 = 100, of 1 8 = 200, of 2 8 = 0, of 3 8 = 0, of 4 8 = 3, buyer 6 0 0 = 5, of 0 8 = 100, of 1 8 = 200",
            "of 2 8 = 0, of 3 8 = 0, of 4 8 = 3, of 5 8 = 0, row 5 2 3 = 0, of 4 8 = 3, of 5 8 = 3");
        edge("6: a ROW stays as others come", "buyer 6 0 0, row 0 0 1, row 0 1 2, row 0 2 3, buyer 6 0 0, row 1 0 1, row 1 1 2",
            "row 1 2 3, buyer 6 0 0, row 2 0 1, row 2 1 2, row 2 2 3, " + Script.times("buyer 6 0 0", 3),
            "of 0 8 = 123, of 1 8 = 123, of 2 8 = 123, of 3 8 = 0, of 5 8 = 0");
        edge("7: its place; NONE; STATE: it is in it", "back 0 = NONE, buyer 0 0 9, back 0 = STATE, back 1 = NONE, back -1 = NONE",
            "back MIN = NONE, back MAX = NONE, go = 1, back 0 = 0, back 0 = STATE, told 8 = 1");
        edge("7: the sixth place", SIX + ", go = 1, back 0 = 5, back 5 = STATE, told 8 = 6, told 9 = 1");
        edge("7: (GAINED and AWAYS stay)", "buyer 2 0 5, set 0 9, go = 3, set 0 3, go = 1, back 0 = 0, gained 0 = 2, of 0 4 = 1",
            "set 0 9, would 0 = 2");
        edge("8: NONE ahead of BAD", "set 2 0 = NONE, set -1 0 = NONE, set 2 1000 = NONE, set -1 -1 = NONE, set MAX 0 = NONE",
            "set MIN 0 = NONE, set 0 -1 = BAD, set 0 1000 = BAD, set 1 10 = BAD, set 1 -1 = BAD, set 0 10 = 1, set 1 9 = 5",
            "told 4 = 10, told 5 = 9");
        edge("9: BAD ahead of FULL", "feed -1 = BAD, feed 128 = BAD, feed MIN = BAD, feed MAX = BAD, count 3 = 0, feed 0 = 1",
            Script.times("feed 127", 99), "count 3 = 100, feed -1 = BAD, feed 128 = BAD, feed 0 = FULL, feed 127 = FULL");
        edge("10: FULL: there are 6 (THE TEXT stays), ahead of the FAULT", "open up 1 = 0, open up 2 = 1, open up 3 = 2",
            "open up 4 = 3, open up 5 = 4, open up 6 = 5, shop = FULL, open x = FULL, count 3 = 1, shop = FULL, count 3 = 1",
            "told 0 = 6, count 1 = 6");
        edge("10: THE TEXT is empty then; -10 less the FAULT (the one that held holds)",
            "open up 3 = 0, count 3 = 0, open up 4! = -14, count 3 = 0, count 1 = 1, told 0 = 3, shop = -10, told 0 = 3",
            "open up 5 = 1, told 0 = 5");
        edge("11: NONE", "told -1 = NONE, told 10 = NONE, told MIN = NONE, told MAX = NONE, told 0 = 1, told 9 = -5");
        edge("11: the HEAD (-5)", "buyer 0 0 9, buyer 0 0 9, told 9 = 0, go = 1, told 9 = 1, go = 1, told 9 = -5, set 1 0",
            "back 1 = 0, told 9 = 1");
    }

    private static void turnsAndRows() {
        edge("12: NONE", "would 0 = NONE, buyer 0 0 9, would 0 = 1, would 1 = NONE, would -1 = NONE, would 6 = NONE",
            "would MIN = NONE, would MAX = NONE");
        edge("12: also without LOAVES, and out of THE ROW", "buyer 0 0 9, set 1 0, would 0 = 1, set 1 1, go = 1, would 0 = 1");
        edge("13: 0: none comes", "go = 0, buyer 0 0 9, set 1 0, go = 0, set 1 1, go = 1, go = 0");
        edge("14: -100001: NONE", "run 0 = -100001, run 5 = -100001, run 6 = -100001, run 9 = -100001, run 10 = 0, run 13 = 0",
            "run 14 = -100001, run -1 = -100001, " + SIX, "run 5 = 0, run 6 = -100001, run 9 = -100001, run 14 = -100001");
        edge("15: NONE, with and without a TURN", "first -1 = NONE, first 2 = NONE, first 0 = -5, first 1 = -5, buyer 0 0 9",
            "first -1 = NONE, first 2 = NONE, first MIN = NONE, first MAX = NONE, set 1 0, first 2 = NONE, first 1 = -5");
        edge("16: NONE: what, k (no such place in THE ROW), ahead of -9", "order 0 0 = -100001, order 0 -1 = 0",
            "order 2 -1 = -100001, order -1 -1 = -100001, order 0 -2 = -100001, order 0 MIN = -100001, order 0 MAX = -100001",
            "buyer 0 0 9, order 0 0 = 0, order 0 1 = -100001, order 2 0 = -100001, " + Script.times("buyer 0 0 9", 5),
            "order 0 5 = -9, order 0 6 = -100001, order 2 0 = -100001, order -1 -1 = -100001, order 1 -2 = -100001",
            "order 1 -1 = -9, go = 1, order 1 4 = 5, order 1 5 = -100001");
        edge("17: NONE", "letBy -1 = NONE, letBy 2 = NONE, letBy MIN = NONE, letBy MAX = NONE, letBy 0 = 0, letBy 1 = -5");
        edge("18: NO: part; also if more than 5 are in THE ROW", "lot -1 = NO, lot 2 = NO, lot MIN = NO, lot MAX = NO, lot 0 = 0",
            "lot 1 = 1, " + Script.times("buyer 0 0 9", 5), "lot 0 = 15, lot 2 = NO, buyer 0 0 9, lot 0 = NO, lot 1 = NO, go = 1",
            "lot 1 = 1");
        edge("19: -5", "buyer 0 0 0, set 0 20, fee = 20, set 0 21, fee = -5");
        edge("20: NONE", "onePrice -1 = NONE, onePrice 2 = NONE, onePrice MIN = NONE, onePrice MAX = NONE, onePrice 0 = 0");
        edge("21: -100001: NONE; -100003: STATE: it is not in THE ROW", "aunt 0 = -100001, buyer 0 0 9, aunt 0 = 0",
            "aunt 1 = -100001, aunt -1 = -100001, aunt MIN = -100001, aunt MAX = -100001, go = 1, aunt 0 = -100003",
            "aunt 1 = -100001, back 0, aunt 0 = 0");
    }

    private static void slipsToTapes() {
        edge("22: Odds (0 .. 10): what they were; BAD", "slips 0 = 0, slips 10 = 0, slips 11 = BAD, slips -1 = BAD, slips 0 = 10");
        edge("23: NO", "sure 0 0 = NO, buyer 0 0 9, sure 0 -1 = NO, sure 0 2 = NO, sure 0 MIN = NO, sure 0 MAX = NO",
            "sure 1 0 = NO, sure -1 0 = NO, sure MIN 1 = NO, sure MAX 1 = NO, sure 0 0 = 1, sure 0 1 = 1");
        edge("23: for six in THE ROW too", SIX, "sure 0 0 = 1, sure 5 0 = 0, sure 5 1 = 1");
        edge("24: -1: none then, 0; NONE ahead of FULL", "film -1 = 0, film 0 = NONE, film 4 = NONE, film 1 = 1, film 3 = 2",
            Script.times("film 2", 10), "film 0 = NONE, film 4 = NONE, film -2 = NONE, film 1 = FULL, count 2 = 12, film -1 = 0");
        edge("25: -5", "off = -5, film 1, off = 0, buyer 0 0 9, off = -5");
        edge("26: NONE ahead of CAST", "judge -1 -1 = NONE, judge 6 0 = NONE, judge 0 -1 = 100, tape 0 0 1, judge 0 -1 = CAST",
            "judge 0 1 = CAST, tape 0 2 1, judge 0 -1 = 100, judge 0 0 = -5");
        edge("27: how many BUYERS there are", "image = 0, buyer 0 0 9, image = 1, go = 1, image = 1, "
            + Script.times("buyer 0 0 9", 5), "image = 6");
        edge("28: STATE: there is none", "undo = STATE, buyer 0 0 9, undo = STATE, count 0 = 1, image = 1, undo = 1, undo = 1");
        edge("29: 0, and no TRACE then: no such BUYER, act", "act 0 0 5 = 0, count 4 = 0, buyer 0 0 0, act 0 0 5 = 5, trace 0 = 10",
            "act 0 3 5 = 0, count 4 = 0, trace 0 = NONE, act 0 2 5 = 10, count 4 = 3, act 0 -1 5 = 0, count 4 = 0, trace 0 = NONE",
            "act 0 2 5, act 1 0 5 = 0, count 4 = 0, trace 0 = NONE, act 0 2 5, act -1 0 5 = 0, count 4 = 0, act 0 2 5",
            "act MAX 0 5 = 0, count 4 = 0, act 0 2 5, act 0 MAX 5 = 0, count 4 = 0, act 0 MIN 5 = 0, act MIN MIN MIN = 0");
        edge("30: NONE", "trace -1 = NONE, trace 0 = NONE, buyer 0 0 0, act 0 1 0 = 0, trace 0 = 11, trace 1 = 10, trace 2 = NONE",
            "trace -1 = NONE, trace MIN = NONE, trace MAX = NONE");
        edge("31: BAD ahead of NOTHING ahead of CAST", "taken 0 7 = BAD, taken 0 -1 = BAD, taken 0 0 = NOTHING, taken 0 1 = NOTHING",
            "buyer 0 0 0, taken 0 1 = CAST, taken 1 1 = NOTHING, taken 1 7 = BAD, taken 0 7 = BAD");
        edge("32: BAD", "count -1 = BAD, count 5 = BAD, count MIN = BAD, count MAX = BAD, count 0 = 0, count 4 = 0");
        edge("33: NONE ahead of BAD ahead of SIZE", "tape -1 5 -1 = NONE, tape 6 5 61 = NONE, tape 6 0 -1 = NONE, tape 0 5 -1 = BAD",
            "tape 0 -2 -1 = BAD, tape 0 5 61 = BAD, tape 0 0 61 = BAD, tape 0 0 -1 = SIZE, item 0 0 1 = NOTHING");
        edge("34: NONE ahead of NOTHING ahead of PLACE", "item -1 -1 0 = NONE, item 6 0 0 = NONE, item MIN 0 0 = NONE",
            "item MAX 0 0 = NONE, item 0 -1 0 = NOTHING, item 0 60 0 = NOTHING, tape 0 0 1, item 0 -1 0 = PLACE",
            "item 0 1 0 = PLACE, item 0 0 0 = 1");
        edge("35: NO: no such TAPE, nothing there, no such place", "read -1 0 = NO, read 6 0 = NO, read MIN 0 = NO, read MAX 0 = NO",
            "read 0 0 = NO, tape 0 0 1, read 0 0 = 0, read 0 1 = NO, read 0 -1 = NO, tape 0 -1 0, read 0 0 = NO");
        edge("36: NONE ahead of NOTHING ahead of CAST ahead of PLACE", "shift -1 0 0 0 -1 = NONE, shift 0 0 -1 0 -1 = NONE",
            "shift 6 0 0 0 -1 = NONE, shift 0 0 6 0 -1 = NONE, shift MIN 0 0 0 0 = NONE, shift 0 0 MAX 0 0 = NONE",
            "shift 0 0 1 0 -1 = NOTHING, tape 0 0 1, shift 0 0 1 0 -1 = NOTHING, shift 1 0 0 0 -1 = NOTHING",
            "shift 0 0 6 0 1 = NONE, shift 6 0 0 0 1 = NONE, tape 1 1 1, shift 0 0 1 0 -1 = CAST, shift 1 0 0 -1 1 = CAST",
            "tape 1 0 1, shift 0 0 1 0 -1 = PLACE, shift 0 0 1 0 1 = 1");
    }

    public static void main(String[] args) {
        newObject();
        buyersAndShops();
        turnsAndRows();
        slipsToTapes();
        Script.end();
    }
}
