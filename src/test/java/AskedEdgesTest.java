/** The edges that Terms 3 name: what is asked of how all is, SLIPS, FILMS, ACTS, THE IMAGE. */
public final class AskedEdgesTest {
    private static void edge(String sentence, String... lines) {
        Script.edge(sentence, lines);
    }

    /** AWAY is best: behind the NO of another one the price is 1. */
    private static final String BETTER_LATER = "buyer 6 0 12, buyer 0 0 0";

    private static void run() {
        edge("RUN: GAINED of each", Script.times("buyer 0 0 9", 6), "set 1 9, run 0 = 8, run 5 = 3, run -1 = -100001",
            "run 6 = -100001, run 9 = -100001, run 14 = -100001, run MIN = -100001, run MAX = -100001");
        edge("RUN: GAINED of a number that has not come yet", "run 0 = -100001, buyer 0 0 9, run 0 = 8, run 1 = -100001");
        edge("RUN: GAINED of one out of THE ROW is what it was",
            "buyer 0 0 9, buyer 0 0 9, go = 1, run 0 = 8, run 1 = 7, back 0, run 0 = 14");
        edge("RUN: THE TILL, PRICE and TURNS go on from how all is",
            "set 0 4, buyer 0 0 9, buyer 0 0 9, go = 1, run 10 = 9, run 11 = 6, run 12 = 2");
        edge("RUN: who has a loaf (bits: said YES since now)", "set 1 9, " + Script.times("buyer 0 0 9", 6),
            "run 13 = 63, go = 1, run 13 = 62, back 0, run 13 = 63, " + Script.times("go = 1", 4) + ", run 13 = 33",
            "go = 1, run 13 = 1, go = 1, run 13 = 0");
        edge("RUN: who says NO, or is not reached, has none", "buyer 0 0 9, buyer 1 9 0, buyer 0 0 9, buyer 0 0 9",
            "set 1 2, run 13 = 5");
    }

    /** Each is asked first behind a change, so that none lives on what another one found. */
    private static void runAnew() {
        String two = "buyer 0 0 9, buyer 0 0 4";
        edge("RUN: goes on from how all is: GAINED", two, "run 1 = 2, set 0 2, run 1 = 1, set 0 9, run 1 = 0, go = 1, run 0 = 0");
        edge("RUN: goes on from how all is: THE TILL", two, "run 10 = 3, set 0 2, run 10 = 5, set 1 1, run 10 = 2, go = 1, run 10 = 2");
        edge("RUN: goes on from how all is: PRICE", two, "run 11 = 3, set 0 2, run 11 = 4, set 1 1, run 11 = 3, go = 1, run 11 = 3");
        edge("RUN: goes on from how all is: TURNS", two, "run 12 = 2, set 1 1, run 12 = 1, set 1 2, go = 1, run 12 = 2");
        edge("RUN: goes on from how all is: who has a loaf", two, "run 13 = 3, set 0 4, run 13 = 1, set 1 1, go = 1, run 13 = 0");
    }

    private static void first() {
        edge("FIRST, FOR ALL: no TURN comes", "first 0 = -5, first 1 = -5, buyer 0 0 9, first 0 = 1, set 1 0, first 0 = -5",
            "first 1 = -5, set 1 1, first 1 = 1");
        edge("FIRST: of several the least: YES and NO", "buyer 0 0 5, set 0 5, first 0 = 1, set 0 6, first 0 = 2, set 0 4",
            "first 0 = 1");
        edge("FIRST: of several the least: NO and AWAY", "buyer 0 0 5, set 0 6, first 0 = 2, go = 2");
        edge("FIRST: of several the least: YES and AWAY", "buyer 0 0 5, set 0 4, first 0 = 1");
        edge("FIRST: AWAY only if AWAYS are below away", "open away 1;down 1 = 0, " + BETTER_LATER,
            "set 0 9, row 0 0 3, first 0 = 3, go = 3, back 1 = STATE, go = 2, told 4 = 1, back 1 = 1, set 0 9",
            "of 0 4 = 1, first 0 = 1, open away 2 = 1, first 0 = 3, open away 0 = 2, first 0 = 1");
        edge("FIRST: going on as its KIND then", "buyer 2 0 6, buyer 0 0 0, buyer 0 0 0, set 0 9, open down 8;away 2 = 0",
            "would 0 = 3, first 0 = 2, open down 5;away 2 = 1, first 0 = 3");
        edge("FIRST: its GAINED is most, not that of all", "set 1 1, set 0 5, buyer 0 0 6, buyer 0 0 50, first 0 = 1",
            "first 1 = 2");
        edge("FOR ALL: of several the least", "buyer 1 9 9, set 0 9, first 1 = 1, set 1 1, buyer 0 0 9, first 1 = 1");
        edge("FOR ALL: AWAY only if AWAYS are below away", "open away 0 = 0, set 1 1, set 0 5, buyer 0 0 5, buyer 0 0 50",
            "first 1 = 2, open away 1;cost 1 b=0 = 1, first 1 = 3, open away 0;cost 1 b=0 = 2, first 1 = 2");
        edge("FOR ALL: THE TILL and all GAINED, together",
            "open fee 9 = 0, buyer 0 0 3, set 0 4, first 0 = 1, first 1 = 1, open fee 0 = 1, first 0 = 2, first 1 = 1");
    }

    private static void order() {
        edge("ORDER: the row of those in THE ROW (5 at most; else -9)", Script.times("buyer 0 0 9", 5),
            "order 0 -1 = 15, order 0 0 = 0, order 0 4 = 4, order 1 -1 = 30, order 1 4 = 4, buyer 0 0 9, order 0 -1 = -9",
            "order 0 0 = -9, order 0 5 = -9, order 1 -1 = -9, order 1 5 = -9, go = 1, order 0 -1 = 15, order 0 0 = 1",
            "order 1 4 = 5");
        edge("ORDER: nobody", "order 0 -1 = 0, order 1 -1 = 0, order 0 0 = -100001, set 0 7, buyer 0 0 9, go = 1",
            "order 0 -1 = 7, order 1 -1 = 2, order 0 0 = -100001, order 1 0 = -100001");
        edge("ORDER: one", "buyer 0 0 9, order 0 -1 = 1, order 0 0 = 0, order 1 -1 = 8, order 1 0 = 0, order 0 1 = -100001");
        edge("ORDER: two, the other way about", "buyer 0 0 2, buyer 0 0 1, order 0 -1 = 3, order 0 0 = 1, order 0 1 = 0",
            "order 1 -1 = 1, order 1 0 = 0, order 1 1 = 1");
        edge("ORDER: the first and the last of 120 rows",
            "buyer 0 0 5, buyer 0 0 4, buyer 0 0 3, buyer 0 0 2, buyer 0 0 1, order 0 -1 = 15, order 0 0 = 4, order 0 1 = 3",
            "order 0 2 = 2, order 0 3 = 1, order 0 4 = 0, open up 0 = 0, set 0 0, order 1 -1 = 15, order 1 0 = 0",
            "order 1 1 = 1, order 1 2 = 2, order 1 3 = 3, order 1 4 = 4");
        edge("ORDER: of several the first as a row (by numbers), however they stand",
            Script.times("buyer 0 0 9", 3), "set 1 2, set 0 0, go = 1, go = 1, back 1 = 1, back 0 = 2, set 1 9, of 2 5 = 0",
            "order 0 0 = 0, order 0 1 = 1, order 0 2 = 2, order 1 0 = 0, order 1 1 = 1, order 1 2 = 2");
        edge("ORDER: of several the first as a row (by numbers): no LOAVES", "set 0 3, buyer 0 0 9, go = 1, set 1 0",
            "buyer 0 0 9, back 0 = 1, order 0 -1 = 3, order 0 0 = 0, order 0 1 = 1, order 1 -1 = 6, order 1 0 = 0");
        edge("ORDER: all GAINED, together: also of those out of THE ROW",
            "buyer 0 0 9, buyer 0 0 7, go = 1, order 1 -1 = 13, gained 0 = 8");
        edge("ORDER: all GAINED may be below 0", "open cost 50 b<9;down 90;away 0 = 0, set 0 90, buyer 0 0 0, buyer 0 0 0",
            "order 1 -1 = -100, order 1 0 = 0, order 1 1 = 1");
    }

    private static void letBy() {
        edge("LET BY: nobody, one", "letBy 0 = 0, letBy 1 = -5, buyer 0 0 9, letBy 0 = 0, letBy 1 = -5");
        edge("LET BY: no LOAVES", "buyer 0 0 9, buyer 0 0 0, set 1 0, letBy 0 = 0, letBy 1 = -5");
        edge("LET BY: both had GAINED no less, and one more: none has more",
            "set 0 5, buyer 0 0 0, buyer 0 0 0, letBy 0 = 0, letBy 1 = -5");
        edge("LET BY: one more by 1, the other the same",
            "set 0 5, buyer 0 0 5, buyer 0 0 7, run 0 = 0, run 1 = 1, letBy 0 = 1, letBy 1 = 0");
        edge("LET BY: one more, the other less by 1", "set 0 5, buyer 0 0 6, buyer 0 0 8, letBy 0 = 0, letBy 1 = -5");
        edge("LET BY: the one ahead more, the one behind the same",
            "set 0 5, buyer 0 0 7, buyer 0 0 0, letBy 0 = 1, letBy 1 = 0");
        edge("LET BY: the one ahead more, the one behind less",
            "open cost 9 r=1 = 0, set 0 9, buyer 1 9 9, buyer 0 0 11, set 1 9, letBy 0 = 0");
        edge("LET BY: both more", "open cost 4 r=1 = 0, set 0 5, buyer 0 0 10, buyer 0 0 0, letBy 0 = 1, letBy 1 = 0");
        edge("LET BY: the first (its place, from the HEAD's, 0, on): the last pair of six", "set 1 9, set 0 0",
            Script.times("buyer 0 0 0", 4) + ", open up 0;down 5 = 0, buyer 4 0 0, buyer 0 0 0, letBy 0 = 0",
            "open up 0;more 6 b=4&l=4;more 5 b=4&l=5 = 1, letBy 0 = 1, letBy 1 = 4");
        // 0 YES at 5, 1 YES at 6, 2 YES at 7. 1 ahead: YES at 5, 0's NO makes it 50 for 2. 2 ahead of 1: 1 pays 7.
        edge("LET BY: others' GAINED does not matter", "open down 50 = 0, set 0 5, buyer 0 0 5, buyer 0 0 7, buyer 0 0 99",
            "run 2 = 92, letBy 0 = 1, letBy 1 = 0");
    }

    private static void lot() {
        edge("LOT: of all rows of those in THE ROW (5 at most)", Script.times("buyer 0 0 9", 5),
            "lot 0 = 15, lot 1 = 1, buyer 0 0 9, lot 0 = NO, lot 1 = NO, go = 1, lot 0 = 15, lot 1 = 1");
        edge("LOT: nobody: one row", "lot 0 = 0, lot 1 = 1, set 0 7, buyer 0 0 9, go = 1, lot 0 = 7, lot 1 = 1");
        // The fee comes once for each PLAIN one ahead of 0: 0 to 4 times, each in 24 rows; then 0 pays 1.
        edge("LOT: of all rows, each as likely: 120", "open fee 1 = 0, buyer 0 0 9, " + Script.times("buyer 1 9 0", 4),
            "set 1 1, lot 0 = 3, lot 1 = 1");
        edge("LOT: one, and no LOAVES", "set 0 7, buyer 0 0 9, lot 0 = 7, lot 1 = 1, set 1 0, lot 0 = 0, lot 1 = 1");
        edge("LOT: a fraction in lowest terms", "buyer 0 0 1, buyer 0 0 2, lot 0 = 2, lot 1 = 1, set 1 1, lot 0 = 1",
            "lot 1 = 1, set 1 2, set 0 2, lot 0 = 3, lot 1 = 2, buyer 0 0 9, set 0 1, lot 0 = 8, lot 1 = 3");
        edge("LOT: a half", "set 0 2, set 1 5, buyer 0 0 2, buyer 1 2 5, lot 0 = 7, lot 1 = 2");
    }

    private static void fee() {
        edge("FEE: the least fee (0 .. 20)", "fee = 0, buyer 0 0 0, fee = 1, set 0 0, fee = 0, set 0 20, fee = 20",
            "set 0 21, fee = -5, set 0 999, fee = -5, set 0 19, fee = 19");
        edge("FEE: in place of the SHOP's", "open fee 99 = 0, buyer 0 0 0, set 0 5, fee = 5, told 3 = 99, set 0 21",
            "fee = -5, set 0 0, fee = 0");
        edge("FEE: nobody would say NO by RUN: not the last one either",
            Script.times("buyer 0 0 0", 5), "set 0 16, fee = 20, set 0 17, fee = -5, set 1 4, fee = 20");
        edge("FEE: none helps a FALLING one", "buyer 3 0 99, buyer 0 0 99, friend 0 1, fee = -5, set 0 0, fee = 0");
        edge("FEE: nobody, and no LOAVES", "fee = 0, buyer 0 0 0, set 0 99, fee = -5, set 1 0, fee = 0");
        edge("FEE: AWAY is no NO", "open away 9 = 0, buyer 2 0 0, set 0 9, fee = 9, buyer 6 0 0, row 1 0 3, fee = 10");
    }

    private static void onePrice() {
        edge("ONE PRICE: nobody, no LOAVES", "onePrice 0 = 0, onePrice 1 = 0, buyer 0 0 9, set 1 0, onePrice 0 = 0",
            "onePrice 1 = 0");
        edge("ONE PRICE: the price (0 .. 99)", "open more 1 p=2 = 0, buyer 0 0 99, onePrice 0 = 99, onePrice 1 = 99, set 0 2",
            "of 0 6 = 100, onePrice 0 = 99, onePrice 1 = 99");
        edge("ONE PRICE: 0, if none is worth a thing", "buyer 0 0 0, onePrice 0 = 0, onePrice 1 = 0, buyer 0 0 1",
            "onePrice 0 = 1, onePrice 1 = 1");
        edge("ONE PRICE: whose VALUE now is that or more", "buyer 0 0 98, onePrice 0 = 98, onePrice 1 = 98, buyer 0 0 49",
            "onePrice 0 = 49, onePrice 1 = 98, open more 2 b=1 = 0, onePrice 0 = 51, onePrice 1 = 102");
        edge("ONE PRICE: of several the least", "buyer 0 0 6, buyer 0 0 3, buyer 0 0 2, onePrice 0 = 2, onePrice 1 = 6");
        edge("ONE PRICE: as far as LOAVES go", Script.times("buyer 0 0 5", 6), "onePrice 1 = 25, set 1 6, onePrice 1 = 30",
            "set 1 9, onePrice 1 = 30, onePrice 0 = 5, set 1 1, onePrice 1 = 5");
        edge("ONE PRICE: all in THE ROW, none out of it", "buyer 0 0 9, buyer 0 0 5, onePrice 1 = 10, go = 1, onePrice 1 = 5",
            "back 0, onePrice 1 = 10");
        edge("ONE PRICE: what THE TILL has does not matter", "set 0 50, buyer 0 0 99, go = 1, told 6 = 50, onePrice 1 = 0",
            "buyer 0 0 4, onePrice 1 = 4, onePrice 0 = 4");
    }

    private static void aunt() {
        edge("AUNT: one alone has no others", "buyer 0 0 9, aunt 0 = 0, buyer 0 0 9, aunt 0 = -1, aunt 1 = 0");
        edge("AUNT: others in THE ROW alone", "buyer 0 0 9, buyer 0 0 9, buyer 0 0 9, go = 1, aunt 1 = -1, aunt 2 = 0",
            "aunt 0 = -100003");
        edge("AUNT: no LOAVES", "buyer 0 0 9, buyer 0 0 9, set 1 0, aunt 0 = 0, aunt 1 = 0");
        edge("AUNT: the last loaf", "buyer 0 0 9, buyer 0 0 7, set 1 1, aunt 0 = -6, aunt 1 = 0");
        edge("AUNT: one that is a FRIEND", "buyer 3 0 9, buyer 0 0 0, friend 0 1, set 0 2, aunt 1 = -7, aunt 0 = 0");
    }

    private static void slips() {
        edge("SLIPS: odds of n of ten (0 at first)", "slips 0 = 0, slips 10 = 0, slips -1 = BAD, slips 11 = BAD",
            "slips MIN = BAD, slips MAX = BAD, slips 1 = 10, slips 0 = 1");
        edge("SURE with odds 0, 1, 9 and 10", "buyer 0 0 9, sure 0 0 = 1, sure 0 1 = 1, slips 1, sure 0 0 = 9",
            "sure 0 1 = 10, slips 9, sure 0 0 = 1, sure 0 1 = 10, slips 10, sure 0 0 = 0, sure 0 1 = 1, slips 5",
            "sure 0 0 = 1, sure 0 1 = 2");
        edge("SLIPS: each TURN by itself", Script.times("buyer 0 0 9", 6), "set 1 9, slips 3, sure 5 0 = 7, sure 5 1 = 10",
            "set 1 5, sure 4 1 = 10, sure 5 0 = 582351, sure 5 1 = 1000000, set 1 1, sure 5 0 = 1701, sure 5 1 = 1000000");
        edge("SLIPS: a NO by itself stays one", "buyer 0 0 0, slips 5, sure 0 0 = 0, sure 0 1 = 1, set 0 0, sure 0 0 = 1",
            "sure 0 1 = 2");
        edge("SURE: it says YES by the end of THE DAY, from now on", "buyer 0 0 9, go = 1, sure 0 0 = 0, sure 0 1 = 1",
            "back 0, sure 0 0 = 1, set 1 0, sure 0 0 = 0, sure 0 1 = 1");
        edge("SURE: none, if more than 12 TURNS may come: 12 till THE ROW is empty",
            "open away 9 = 0, buyer 2 0 0, buyer 0 0 0, buyer 0 0 0, set 0 999, run 12 = 12, sure 0 0 = 0, sure 0 1 = 1",
            "sure 2 1 = 1, buyer 0 0 0, run 12 = 13, sure 0 0 = NO, sure 0 1 = NO, sure 3 0 = NO, go = 3, sure 0 0 = 0");
        edge("SURE: none, if more than 12 TURNS may come: 12 till LOAVES are 0",
            "open away 3;down 50;cost 49 b=2 = 0, buyer 1 9 0, buyer 2 0 0, buyer 2 0 1, buyer 2 0 0, set 0 50, set 1 1",
            "run 12 = 12, run 13 = 4, sure 2 0 = 1, sure 2 1 = 1, sure 3 0 = 0, set 1 2, run 12 = 13, sure 2 0 = NO");
        edge("SURE: TURNS gone do not count", "open away 9 = 0, buyer 2 0 0, set 0 999", Script.times("go = 3", 9),
            Script.times("back 0 = STATE, go = 2, set 0 999, back 0", 3), "told 7 = 12, sure 0 1 = 1, told 7 = 12");
    }

    private static void films() {
        edge("A FILM: 1, 2, 3; 12 at most", "film 0 = NONE, film 4 = NONE, film -2 = NONE, film MIN = NONE, film MAX = NONE",
            "count 2 = 0, film 1 = 1, film 3 = 2, " + Script.times("film 2", 9) + ", film 2 = 12, film 2 = FULL, film 1 = FULL",
            "film 0 = NONE, count 2 = 12, film -1 = 0, count 2 = 0, film -1 = 0, film 3 = 1");
        edge("OFF: the first TURN (from 0) that is otherwise: none", "off = -5, film 1 = 1, off = 0, film -1, off = -5",
            "buyer 0 0 9, off = -5, film 1, off = -5");
        edge("OFF: or does not come", "buyer 0 0 9, buyer 0 0 9, film 1, film 1, off = -5, film 1, off = 2, set 1 1, off = 1",
            "set 1 0, off = 0");
        edge("OFF: all of 12", "open away 9 = 0, buyer 2 0 0, buyer 0 0 0, buyer 0 0 0, set 0 999, film 3, film 2, film 2",
            Script.times("film 3", 8), "off = -5, film 2 = 12, off = -5, buyer 0 0 0, off = 3");
        edge("OFF: the last of 12", "open away 9 = 0, buyer 2 0 0, buyer 0 0 0, buyer 0 0 0, set 0 999, film 3, film 2",
            "film 2, " + Script.times("film 3", 8) + ", film 1 = 12, off = 11");
        edge("OFF: TURNS from now on", "buyer 0 0 9, buyer 1 9 0, film 1, film 2, off = -5, go = 1, off = 0, film -1, film 2",
            "off = -5, count 2 = 1");
    }

    private static void acts() {
        edge("ACTS wrap: BUYER", "buyer 0 0 0, buyer 0 9 0, act 0 0 MAX = 2147483647, act 1 0 MAX = -2147483648",
            "act 1 0 MIN = -2147483647, act 1 1 MIN = 2147483640, act 0 2 1073741824 = -2147483648",
            "act 0 2 1073741823 = 2147483646, act 0 2 MIN = 0, act 0 2 -1073741825 = 2147483646");
        edge("ACTS wrap: PLAIN", "buyer 1 9 0, act 0 1 MIN = 2147483633, act 0 2 MIN = -30");
        edge("ACTS wrap: WAITING", "buyer 2 0 0, act 0 0 MAX = 2147483645, act 0 0 MIN = -2147483648",
            "act 0 0 715827883 = -2147483647, act 0 0 715827882 = 2147483646, act 0 1 MIN = -2147483648, act 0 2 MIN = 0");
        edge("ACTS wrap: FALLING", "buyer 0 0 0, buyer 0 0 0, buyer 3 0 0, act 2 2 1073741821 = -2147483647",
            "act 2 2 1073741820 = 2147483647, act 2 2 1073741822 = -2147483645");
        edge("ACTS wrap: SURE", "buyer 4 0 0, act 0 0 MIN = -2147483648, act 0 0 MAX = -2147483647",
            "act 0 1 MAX = -2147483642, act 0 1 2147483646 = -2147483641");
        edge("ACTS wrap: LATE", "buyer 0 0 0, buyer 5 0 0, act 1 2 MIN = -4, act 1 0 MAX = 2147483646");
        edge("ACTS wrap: TOLD", "buyer 0 0 0, buyer 0 0 0, buyer 6 0 0, act 2 1 2147483645 = -2147483645",
            "act 2 1 2147483641 = 2147483647, act 2 0 2147483646 = -2147483648");
        edge("THE TRACE: the numbers of the bodies that ran, as they began: BUYER, PLAIN, WAITING, FALLING",
            "buyer 0 0 0, buyer 1 0 0, buyer 2 0 0, buyer 3 0 0, act 0 2 1, trace 0 = 12, trace 1 = 11, trace 2 = 10",
            "act 1 2 1, trace 0 = 12, trace 1 = 20, trace 2 = 11, trace 3 = 10, act 2 1 1, trace 0 = 11, trace 1 = 30",
            "trace 2 = 10, act 3 2 1, trace 0 = 40, trace 1 = 12, trace 2 = 11, trace 3 = 10, trace 4 = 11, trace 5 = 10",
            "trace 6 = NONE");
        edge("THE TRACE: the numbers of the bodies that ran, as they began: SURE, LATE",
            "buyer 4 0 0, buyer 5 0 0, act 0 1 1, trace 0 = 51, trace 1 = 20, trace 2 = 11, trace 3 = 50, trace 4 = 10",
            "trace 5 = NONE, act 1 2 1, trace 0 = 60, trace 1 = 12, trace 2 = 11, trace 3 = 30, trace 4 = 10, count 4 = 5");
        edge("THE TRACE: bodies of the latest act() alone", "trace 0 = NONE, count 4 = 0, buyer 0 0 0, act 0 2 0 = 0",
            "count 4 = 3, trace 0 = 12, trace 2 = 10, trace 3 = NONE, act 0 0 5 = 5, count 4 = 1, trace 0 = 10",
            "trace 1 = NONE, trace 2 = NONE");
        edge("THE TRACE: the first 20 are kept: the longest has 12", "buyer 6 9 0, act 0 2 1 = 3",
            "count 4 = 12, trace 0 = 40, trace 1 = 12, trace 2 = 70, trace 3 = 11, trace 4 = 71, trace 5 = 10, trace 6 = 10",
            "trace 7 = 70, trace 8 = 11, trace 9 = 71, trace 10 = 10, trace 11 = 10, trace 12 = NONE, trace 19 = NONE",
            "trace 20 = NONE, trace -1 = NONE, trace MIN = NONE, trace MAX = NONE");
    }

    private static void image() {
        edge("THE IMAGE of nobody", "undo = STATE, image = 0, set 0 5, set 1 0, buyer 0 0 9, film 1, slips 4, open up 2",
            "undo = 0, count 0 = 0, told 4 = 1, told 5 = 5, told 8 = 0, told 9 = -5, count 2 = 0, slips 0 = 0, told 0 = 1",
            "count 1 = 1, of 0 0 = -10001, go = 0");
        String twelve = Script.times("film 1", 12);
        edge("THE IMAGE of six, and a full FILM", Script.times("buyer 6 9 99", 6), "row 5 2 3, friend 5 0, slips 10, set 1 9",
            twelve, "image = 6, row 5 2 1, row 5 0 2, friend 5 1, film -1, " + Script.times("go", 6) + ", undo = 6, told 8 = 6",
            "of 5 5 = 5, of 5 8 = 3",
            "of 5 3 = 0, told 5 = 9, told 7 = 0, count 2 = 12, film 1 = FULL, off = 6, slips 0 = 10, gained 0 = 0",
            "buyer 0 0 0 = FULL");
        edge("THE IMAGE: the FILM's acts", "buyer 0 0 9, buyer 1 9 0, film 1, film 2, off = -5, image = 2, film -1, film 3, film 3",
            "film 3, off = 0, undo = 2, count 2 = 2, off = -5");
        edge("THE IMAGE: a BUYER that came since then is none, its number comes again",
            "buyer 0 0 9, image = 1, buyer 6 3 8, row 1 0 3, friend 1 0, set 0 0, go, go, undo = 1, of 1 0 = -10001",
            "gained 1 = -100001, back 1 = NONE, friend 0 1 = NONE, taken 1 0 = NOTHING, would 1 = NONE, run 1 = -100001",
            "buyer 6 2 7 = 1, of 1 8 = 0, of 1 3 = -5, of 1 4 = 0, of 1 5 = 1, gained 1 = 0, of 1 2 = 7");
        edge("THE IMAGE is kept: undone twice, and taken anew", "set 0 7, image = 0, set 0 8, undo = 0, told 4 = 7, set 0 9",
            "undo = 0, told 4 = 7, set 0 10, image = 0, set 0 11, undo = 0, told 4 = 10");
        edge("THE IMAGE holds neither SHOPS, THE TEXT, TAPES nor THE TRACE", "buyer 0 0 0, image = 1, feed 1, feed 2",
            "tape 0 2 1, item 0 0 5, act 0 1 4, undo = 1, count 3 = 2, read 0 0 = 5, count 4 = 2, trace 0 = 11");
        edge("THE IMAGE: which SHOP holds", "open up 2 = 0, image = 0, open up 3 = 1, undo = 0, told 0 = 2, count 1 = 2",
            "open up 4 = 2, told 0 = 4, undo = 0, told 0 = 2, count 1 = 3");
    }

    public static void main(String[] args) {
        run();
        runAnew();
        first();
        order();
        letBy();
        lot();
        fee();
        onePrice();
        aunt();
        slips();
        films();
        acts();
        image();
        Script.end();
    }
}
