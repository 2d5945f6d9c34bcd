/** What the document promises, promise by promise: ordinary inputs, the edges it names, wrong inputs. */
public final class PromisesTest {
    private static final long NO = PennyMore.NO;
    private static int passed = 0;
    private static int failed = 0;

    private static void due(String call, long got, long want) {
        if (got == want) {
            passed++;
        } else {
            failed++;
            System.out.println(call + " answered " + got + ", due is " + want);
        }
    }

    private static int open(PennyMore x, String text) {
        for (int i = 0; i < text.length(); i++) {
            x.feed(text.charAt(i));
        }
        return x.shop();
    }

    /** A new object with a SHOP, PRICE and LOAVES. */
    private static PennyMore with(String text, int price, int loaves) {
        PennyMore x = new PennyMore();
        if (!text.isEmpty()) {
            due("shop " + text, open(x, text), 0);
        }
        x.set(0, price);
        x.set(1, loaves);
        return x;
    }

    private static void rowIs(PennyMore x, int... buyers) {
        due("how many stand", x.told(8), buyers.length);
        for (int place = 0; place < buyers.length; place++) {
            due("place of " + buyers[place], x.of(buyers[place], 5), place);
        }
    }

    private static String times(String s, int n) {
        StringBuilder all = new StringBuilder();
        for (int i = 0; i < n; i++) {
            all.append(s);
        }
        return all.toString();
    }

    // ---- buyers, shops

    private static void promise1() {
        PennyMore x = new PennyMore();
        int[] told = {1, 1, 1, 0, 1, 5, 0, 0, 0, -5};
        for (int what = 0; what < told.length; what++) {
            due("new told(" + what + ")", x.told(what), told[what]);
        }
        for (int what = 0; what <= 4; what++) {
            due("new count(" + what + ")", x.count(what), 0);
        }
        due("new slips", x.slips(0), 0);
        due("new undo", x.undo(), PennyMore.STATE);
        due("new trace", x.trace(0), PennyMore.NONE);
        for (int tape = 0; tape < 6; tape++) {
            due("new tape " + tape, x.item(tape, 0, 1), -11);
        }
        due("NONE", PennyMore.NONE, -1);
        due("BAD", PennyMore.BAD, -2);
        due("STATE", PennyMore.STATE, -3);
        due("FULL", PennyMore.FULL, -4);
        due("NO", PennyMore.NO, Long.MIN_VALUE);
    }

    private static void promise2() {
        PennyMore x = new PennyMore();
        due("kind -1", x.buyer(-1, 0, 0), -1);
        due("kind 7", x.buyer(7, 0, 0), -1);
        due("kind 7 and bad v", x.buyer(7, 10, 100), -1);
        due("v -1", x.buyer(0, -1, 0), -2);
        due("v 10", x.buyer(0, 10, 0), -2);
        due("worth -1", x.buyer(0, 0, -1), -2);
        due("worth 100", x.buyer(0, 0, 100), -2);
        due("nothing came of it", x.count(0), 0);
        for (int b = 0; b < 6; b++) {
            due("buyer " + b, x.buyer(6 - b, 9 - b, 99 - b), b);
            due("it is at the end", x.of(b, 5), b);
        }
        due("a seventh", x.buyer(0, 0, 0), -4);
        due("a seventh of no kind", x.buyer(7, 0, 0), -1);
        due("a bad seventh", x.buyer(0, 10, 0), -2);
        rowIs(x, 0, 1, 2, 3, 4, 5);
    }

    private static void promise3() {
        PennyMore x = with("more 3 k=6;cost 4 b=1;cost 2 b=1&r=2", 1, 5);
        x.buyer(0, 7, 50);
        x.buyer(6, 2, 40);
        x.friend(1, 0);
        x.row(1, 0, 1);
        x.row(1, 1, 2);
        x.row(1, 2, 3);
        int[] first = {0, 7, 50, -5, 0, 0, 50, 0, -5};
        int[] second = {6, 2, 40, 0, 0, 1, 43, 6, 123};
        for (int what = 0; what <= 8; what++) {
            due("of(0, " + what + ")", x.of(0, what), first[what]);
            due("of(1, " + what + ")", x.of(1, what), second[what]);
        }
        due("of(0, -1)", x.of(0, -1), -10001);
        due("of(0, 9)", x.of(0, 9), -10001);
        due("of(2, 0)", x.of(2, 0), -10001);
        due("of(-1, 0)", x.of(-1, 0), -10001);
        x.go();
        due("out of the row", x.of(0, 5), -5);
        due("cost with fewer in the row", x.of(1, 7), 4);
        x.row(1, 0, 0);
        due("a row of tells with a 0 ahead", x.of(1, 8), 23);
    }

    private static void promise4() {
        PennyMore x = with("cost 3 b=1;fee 2", 4, 5);
        x.buyer(0, 0, 9);
        x.buyer(1, 9, 6);
        due("first yes", x.go(), 1);
        due("gained by a yes", x.gained(0), 5);
        due("then no", x.go(), 2);
        due("gained less by cost and fee", x.gained(1), -5);
        due("gained(2)", x.gained(2), -100001);
        due("gained(-1)", x.gained(-1), -100001);
        due("gained(6)", x.gained(6), -100001);
    }

    private static void promise5() {
        PennyMore x = new PennyMore();
        x.buyer(0, 0, 0);
        x.buyer(0, 0, 0);
        due("a friend", x.friend(0, 1), -5);
        due("who it was", x.friend(0, -1), 1);
        due("nobody it was", x.friend(0, -1), -5);
        due("itself", x.friend(1, 1), -2);
        due("no such other", x.friend(1, 2), -1);
        due("other -2", x.friend(1, -2), -1);
        due("no such buyer", x.friend(2, 0), -1);
        due("no such buyer, itself", x.friend(2, 2), -1);
        due("buyer -1, other -1", x.friend(-1, -1), -1);
        due("nothing came of it", x.of(1, 3), -5);
    }

    private static void promise6() {
        PennyMore x = new PennyMore();
        x.buyer(6, 0, 0);
        x.buyer(3, 0, 0);
        due("row(0, 1, 3)", x.row(0, 1, 3), 0);
        due("row(0, 1, 2)", x.row(0, 1, 2), 3);
        due("row(0, 2, 1)", x.row(0, 2, 1), 0);
        due("all three", x.of(0, 8), 21);
        due("part -1", x.row(0, -1, 0), -1);
        due("part 3", x.row(0, 3, 0), -1);
        due("part 3, n 4", x.row(0, 3, 4), -1);
        due("no such buyer", x.row(2, 0, 0), -1);
        due("n -1", x.row(0, 0, -1), -2);
        due("n 4", x.row(0, 0, 4), -2);
        due("n 4 of another kind", x.row(1, 0, 4), -2);
        due("another kind", x.row(1, 0, 1), -3);
        due("nothing came of it", x.of(0, 8), 21);
    }

    private static void promise7() {
        PennyMore x = with("away 2;fee 1", 9, 5);
        x.buyer(2, 0, 0);
        x.buyer(0, 0, 0);
        due("in the row", x.back(0), -3);
        due("no such buyer", x.back(2), -1);
        due("buyer -1", x.back(-1), -1);
        due("away", x.go(), 3);
        due("the other's no", x.go(), 2);
        due("its place", x.back(1), 1);
        rowIs(x, 0, 1);
        due("at price 1 away again", x.go(), 3);
        x.set(0, 0);
        due("the other's yes", x.go(), 1);
        due("then its yes", x.go(), 1);
        due("back behind nobody", x.back(0), 0);
        due("aways stay", x.of(0, 4), 2);
        due("gained stays", x.gained(0), -1);
        due("no more away", x.would(0), 2);
    }

    private static void promise8() {
        PennyMore x = new PennyMore();
        due("price", x.set(0, 999), 1);
        due("price again", x.set(0, 0), 999);
        due("loaves", x.set(1, 9), 5);
        due("loaves again", x.set(1, 0), 9);
        due("price 1000", x.set(0, 1000), -2);
        due("price -1", x.set(0, -1), -2);
        due("loaves 10", x.set(1, 10), -2);
        due("loaves -1", x.set(1, -1), -2);
        due("what 2", x.set(2, 0), -1);
        due("what -1", x.set(-1, -1), -1);
        due("price stays", x.told(4), 0);
        due("loaves stay", x.told(5), 0);
    }

    private static void promise9() {
        PennyMore x = new PennyMore();
        due("sign 0", x.feed(0), 1);
        due("sign 127", x.feed(127), 2);
        due("sign 128", x.feed(128), -2);
        due("sign -1", x.feed(-1), -2);
        for (int n = 3; n <= 100; n++) {
            due("sign " + n, x.feed('x'), n);
        }
        due("full", x.feed('x'), -4);
        due("full and bad", x.feed(128), -2);
        due("bytes of the text", x.count(3), 100);
        due("sign 0 is the fault", x.shop(), -10);
    }

    private static void faults() {
        String[] texts = {"", "x", "m", "more", "more ", "more5", "more x", "more 5", "more 55", "more 555",
            "more 5 ", "more 5  p=1", "more 5 p", "more 5 p=", "more 5 p=x", "more 5 p=1 ", "more 5 p=123",
            "more 5 p!1", "more 5 g=1", "more 5 p=1|", "more 5 p=1&", "more 5 p=1||p=1", "more 5 p=1&|p=1",
            "more 5 (p=1", "more 5 (p=1))", "more 5 ()", "more 5 !", "more 5 p=1!p=1", "more 5 !!!!!p=1",
            "more 5 (!(!(p=1))))", "more 5 (((!(p=1))))", "more 5 !(!(p=1))|!!!!!", "up", "up 1 p=1", "up 1;",
            "up 1;;up 1", "up -1", "down 123", "down 1 ", "away  1", "fee 1,fee 1", "Fee 1", " fee 1", "fee 1\0",
            "more 5 p=1)", "cost 1 b=1;cost", "cast", "fear", "u 1"};
        int[] places = {0, 0, 1, 4, 5, 4, 5, 6, 7, 7,
            7, 7, 8, 9, 9, 10, 11,
            8, 7, 11, 11, 11, 11,
            11, 12, 8, 8, 10, 11,
            11, 11, 21, 2, 4, 5,
            5, 3, 7, 6, 5, 5, 0, 0, 5,
            10, 15, 1, 2, 1};
        for (int t = 0; t < texts.length; t++) {
            PennyMore x = with("up 7", 1, 5);
            due("shop of '" + texts[t] + "'", open(x, texts[t]), -10 - places[t]);
            due("the one that held holds", x.told(0), 7);
            due("the text is empty", x.count(3), 0);
            due("no shop more", x.count(1), 1);
        }
        PennyMore x = new PennyMore();
        due("an eleventh clause", open(x, times("up 1;", 10) + "up 1"), -10 - 49);
        due("ten clauses", open(x, times("up 1;", 9) + "up 2"), 0);
        due("of several the last", x.told(0), 2);
        due("100 bytes that end too early", open(x, "more 1 " + times("p=1|", 23) + "!"), -10 - 100);
        due("100 bytes that end behind |", open(x, "more 11 " + times("p=1|", 23)), -10 - 100);
        due("100 bytes that end behind &", open(x, "more 11 " + times("p=1&", 23)), -10 - 100);
        due("100 bytes", open(x, "more 11 " + times("p=0|", 22) + "p=01"), 1);
        x.buyer(0, 0, 4);
        due("value by 100 bytes", x.of(0, 6), 15);

        x = new PennyMore();
        x.buyer(0, 0, 4);
        due("a fault at the end", open(x, "more 5 b=0;cost 5 b=0;fee 5;up 5;down 5;away 5;!"), -10 - 47);
        due("then a shop of one clause", open(x, "more 2 b=0"), 0);
        due("value", x.of(0, 6), 6);
        due("cost", x.of(0, 7), 0);
        due("up", x.told(0), 1);
        due("down", x.told(1), 1);
        due("away", x.told(2), 1);
        due("fee", x.told(3), 0);
        // Eight of ten bytes and a ; each, and two of five.
        due("ten clauses", open(x, times("more 7 b=0;", 8) + "fee 1;fee 2"), 1);
        due("value by ten clauses", x.of(0, 6), 60);
        due("fee by ten clauses", x.told(3), 2);
    }

    private static void tests() {
        String[] tests = {"b=1", "b<1", "b>1", "b<2", "b>0", "k=3", "k>3", "p=7", "p<7", "p>6", "p=07", "l=4", "l>4",
            "r=3", "r<3", "a=1", "a=0", "f=1", "f=0", "!b=1", "!b=0", "!!b=1", "!!!!b=1", "b=1|b=0", "b=0|b=1",
            "b=0|b=2", "b=1&k=3", "b=1&k=2", "b=1|b=0&b=2", "(b=1|b=0)&b=2", "b=0&b=2|b=1", "!b=0&b=1", "!b=1|b=1",
            "!(b=1|b=2)", "!(b=0&b=1)", "((((b=1))))", "!(!(b=1))", "b=0|b=2|b=1", "b=1&p=7&l=4", "b=1&p=7&l=3",
            "(b=0|k=3)&(p=7|p=8)&!(l=3)", "b=1&(b=0|k=3)"};
        int[] hold = {1, 0, 0, 1, 1, 1, 0, 1, 0, 1, 1, 1, 0,
            1, 0, 1, 0, 1, 0, 0, 1, 1, 1, 1, 1,
            0, 1, 0, 1, 0, 1, 1, 1,
            0, 1, 1, 1, 1, 1, 0,
            1, 1};
        for (int t = 0; t < tests.length; t++) {
            PennyMore x = new PennyMore();
            x.buyer(0, 0, 9);
            x.buyer(3, 0, 9);
            x.buyer(2, 0, 9);
            x.friend(1, 0);
            x.set(0, 7);
            x.set(1, 4);
            // AWAYS are 0 here: what a TEST of 1 tells is turned about, and looked at below.
            due("shop " + tests[t], open(x, "more 33 " + tests[t]), 0);
            boolean byAways = tests[t].charAt(0) == 'a';
            due(tests[t], x.of(1, 6), 9 + 33 * (byAways ? 1 - hold[t] : hold[t]));
        }
        PennyMore x = with("more 1 a=0;more 2 a=1;more 4 a>1;away 3", 50, 5);
        x.buyer(2, 0, 0);
        due("never away", x.of(0, 6), 1);
        x.go();
        due("once away", x.of(0, 6), 2);
        x.go();
        due("twice away", x.of(0, 6), 4);
        x.buyer(0, 0, 0);
        x.friend(0, 1);
        open(x, "more 1 f=1;more 2 f=0;more 4 f<1;more 8 f>0");
        due("friend stands", x.of(0, 6), 9);
        due("no friend", x.of(1, 6), 6);
        x.set(0, 0);
        x.go();
        x.go();
        due("friend gone", x.of(0, 6), 6);
    }

    private static void promise10() {
        PennyMore x = new PennyMore();
        due("first shop", open(x, "up 3;down 4;away 5;fee 6"), 0);
        due("up", x.told(0), 3);
        due("down", x.told(1), 4);
        due("away", x.told(2), 5);
        due("fee", x.told(3), 6);
        due("second shop", open(x, "up 0;down 0;away 99;fee 99;up 99"), 1);
        due("the last up", x.told(0), 99);
        due("down 0", x.told(1), 0);
        due("away 9 at most", x.told(2), 9);
        due("fee 99", x.told(3), 99);
        due("third shop", open(x, "more 1 b=0"), 2);
        due("up without", x.told(0), 1);
        due("down without", x.told(1), 1);
        due("away without", x.told(2), 1);
        due("fee without", x.told(3), 0);
        due("the text is empty", x.count(3), 0);
        for (int s = 3; s < 6; s++) {
            due("shop " + s, open(x, "fee " + s), s);
        }
        due("a seventh", open(x, "fee 6"), -4);
        due("the text stays", x.count(3), 5);
        due("a seventh with a fault", open(x, "!"), -4);
        due("the text stays", x.count(3), 6);
        due("the sixth holds", x.told(3), 5);
        due("shops", x.count(1), 6);
        x = with("more 10 b=0;more 5 k=0;cost 3 b=0;cost 4 r=1;more 1 b=1;cost 9 b=1", 1, 5);
        x.buyer(0, 0, 2);
        due("value of several more", x.of(0, 6), 17);
        due("cost of several", x.of(0, 7), 7);
        faults();
        tests();
    }

    private static void promise11() {
        PennyMore x = with("up 3;down 4;away 5;fee 6", 12, 8);
        x.buyer(0, 0, 5);
        x.buyer(0, 0, 99);
        due("no", x.go(), 2);
        int[] told = {3, 4, 5, 6, 4, 8, 6, 1, 1, 1};
        for (int what = 0; what < told.length; what++) {
            due("told(" + what + ")", x.told(what), told[what]);
        }
        due("yes", x.go(), 1);
        int[] then = {3, 4, 5, 6, 7, 7, 10, 2, 0, -5};
        for (int what = 0; what < then.length; what++) {
            due("then told(" + what + ")", x.told(what), then[what]);
        }
        due("told(-1)", x.told(-1), -1);
        due("told(10)", x.told(10), -1);
    }

    // ---- turns

    private static int would(int kind, int v, int worth, String text, int price, int loaves, int others) {
        PennyMore x = with(text, price, loaves);
        x.buyer(kind, v, worth);
        for (int o = 0; o < others; o++) {
            x.buyer(0, 0, 0);
        }
        return x.would(0);
    }

    private static void promise12() {
        due("BUYER at gain 0", would(0, 9, 5, "", 5, 5, 0), 1);
        due("BUYER at gain -1", would(0, 9, 5, "", 6, 5, 0), 2);
        due("BUYER saved by the fee", would(0, 0, 5, "fee 1", 6, 5, 0), 1);
        due("BUYER saved by the cost", would(0, 0, 5, "cost 1 b=0", 6, 5, 0), 1);
        due("BUYER saved by more", would(0, 0, 5, "more 1 b=0", 6, 5, 0), 1);
        due("PLAIN at v", would(1, 2, 7, "", 5, 5, 0), 1);
        due("PLAIN below v", would(1, 2, 7, "", 6, 5, 0), 2);
        due("PLAIN with cost and fee", would(1, 5, 7, "fee 2;cost 2 b=0", 6, 5, 0), 1);
        due("WAITING below the price", would(2, 0, 5, "", 6, 5, 0), 3);
        due("WAITING at the price", would(2, 0, 5, "", 5, 5, 0), 1);
        due("WAITING below though a yes gains", would(2, 0, 5, "cost 9 b=0", 6, 5, 0), 3);
        due("WAITING that may not", would(2, 0, 5, "away 0", 6, 5, 0), 2);
        due("WAITING that may not, a yes gains", would(2, 0, 5, "away 0;fee 1", 6, 5, 0), 1);
        due("FALLING without friend", would(3, 3, 9, "", 4, 5, 1), 1);
        due("SURE at v loaves", would(4, 5, 0, "", 9, 5, 0), 1);
        due("SURE above v loaves", would(4, 4, 0, "", 9, 5, 0), 2);
        due("SURE as PLAIN, at v", would(4, 4, 9, "", 5, 5, 0), 1);
        due("SURE as PLAIN, below v", would(4, 4, 9, "", 6, 5, 0), 2);
        due("LATE with v others", would(5, 2, 9, "", 1, 5, 2), 3);
        due("LATE with fewer", would(5, 2, 9, "", 1, 5, 1), 1);
        due("LATE that may not", would(5, 2, 9, "away 0", 1, 5, 2), 1);
        due("LATE with v 0, alone", would(5, 0, 9, "", 1, 5, 0), 3);
        due("LATE as WAITING", would(5, 2, 0, "", 1, 5, 0), 3);
        due("TOLD nothing", would(6, 0, 9, "", 1, 5, 1), 1);
        due("with no loaves", would(0, 0, 5, "", 5, 0, 0), 1);

        PennyMore x = new PennyMore();
        x.buyer(3, 3, 99);
        x.buyer(0, 0, 99);
        x.friend(0, 1);
        x.set(0, 4);
        due("FALLING for a friend above v", x.would(0), 2);
        x.set(0, 3);
        due("FALLING at v", x.would(0), 1);
        x.set(0, 4);
        x.friend(0, -1);
        due("FALLING without", x.would(0), 1);

        x = new PennyMore();
        x.buyer(6, 0, 50);
        x.row(0, 0, 2);
        x.row(0, 1, 1);
        x.row(0, 2, 3);
        x.set(0, 9);
        due("TOLD at 0", x.would(0), 2);
        x.set(0, 100);
        due("TOLD at 1", x.would(0), 1);
        x.set(0, 98);
        due("TOLD at 2", x.would(0), 3);
        open(x, "away 0");
        due("TOLD away, as FALLING", x.would(0), 2);
        x.set(0, 50);
        due("TOLD away, as FALLING, a yes", x.would(0), 1);
        x.buyer(0, 0, 0);
        x.friend(0, 1);
        due("TOLD away, as FALLING with a friend", x.would(0), 2);
        x.set(0, 48);
        x.row(0, 0, 0);
        due("TOLD 0, as FALLING with a friend", x.would(0), 2);

        due("would(2)", x.would(2), -1);
        due("would(-1)", x.would(-1), -1);

        for (int friend = 0; friend < 4; friend++) {
            x = new PennyMore();
            x.buyer(0, 0, 9);
            x.buyer(0, 0, 9);
            x.buyer(3, 0, 9);
            x.buyer(0, 0, 9);
            x.friend(2, friend);
            due("FALLING, for one ahead or behind", x.would(2), friend == 2 ? 1 : 2);
        }

        x = with("more 9 r=3;more 20 r=2", 9, 5);
        x.buyer(0, 0, 0);
        x.buyer(0, 0, 0);
        x.buyer(5, 2, 99);
        due("not the head, in a row of three", x.would(1), 1);
        due("LATE, not the head", x.would(2), 3);
        x.go();
        due("row of two", x.told(8), 2);
        due("one that left, as head of three", x.would(0), 2);
        x.set(0, 9);
        due("one that left, as head of three, at 9", x.would(0), 1);
        rowIs(x, 1, 2);
    }

    private static void promise13() {
        PennyMore x = new PennyMore();
        due("nobody", x.go(), 0);
        x = with("up 4;fee 3;cost 2 b=1;down 6", 10, 2);
        x.buyer(0, 0, 12);
        x.buyer(0, 0, 3);
        x.buyer(2, 0, 1);
        x.buyer(0, 0, 9);
        x.buyer(0, 0, 99);
        due("yes", x.go(), 1);
        due("price up", x.told(4), 14);
        due("till", x.told(6), 10);
        due("loaves", x.told(5), 1);
        due("gained", x.gained(0), 2);
        due("no", x.go(), 2);
        due("price down", x.told(4), 6);
        due("till with the fee", x.told(6), 13);
        due("gained less", x.gained(1), -5);
        due("loaves stay", x.told(5), 1);
        due("away", x.go(), 3);
        due("aways", x.of(2, 4), 1);
        due("price stays", x.told(4), 6);
        due("till stays", x.told(6), 13);
        rowIs(x, 3, 4, 2);
        due("turns", x.told(7), 3);
        due("last loaf", x.go(), 1);
        due("no loaf, no turn", x.go(), 0);
        due("turns stay", x.told(7), 4);
        rowIs(x, 4, 2);

        x = with("down 0;away 0;up 99", 15, 9);
        x.buyer(0, 0, 0);
        x.buyer(0, 0, 0);
        x.buyer(4, 9, 0);
        due("no", x.go(), 2);
        due("half, cut", x.told(4), 7);
        x.set(0, 900);
        due("no again", x.go(), 2);
        due("half", x.told(4), 450);
        x.set(0, 950);
        due("yes at any price", x.go(), 1);
        due("999 at most", x.told(4), 999);
        due("loss", x.gained(2), -950);

        x = with("down 50", 3, 5);
        x.buyer(0, 0, 0);
        due("a no", x.go(), 2);
        due("down may be above", x.told(4), 50);

        x = with("cost 5 r=2;more 7 r=2", 1, 5);
        x.buyer(1, 9, 0);
        x.buyer(0, 0, 0);
        due("told by how it was: gain 11", x.go(), 1);
        due("told by how it was", x.gained(0), 6);
    }

    private static PennyMore bakery() {
        PennyMore x = with("up 2;down 3;fee 1;away 2;cost 1 k=2", 4, 3);
        x.buyer(0, 0, 9);
        x.buyer(2, 0, 4);
        x.buyer(1, 3, 6);
        x.buyer(0, 0, 8);
        return x;
    }

    private static void promise14() {
        // 0 YES at 4 (6), 1 AWAY at 6, 2 NO: 6+1-6 < 3 (3), 3 YES at 3 (5), 1 AWAY at 5, 1: 4+1+1-5 YES.
        PennyMore x = bakery();
        int[] gained = {5, -1, -1, 5};
        for (int b = 0; b < 4; b++) {
            due("run(" + b + ")", x.run(b), gained[b]);
        }
        due("run(10)", x.run(10), 4 + 1 + 3 + 5);
        due("run(11)", x.run(11), 7);
        due("run(12)", x.run(12), 6);
        due("run(13)", x.run(13), 11);
        for (int b = 0; b < 4; b++) {
            x.set(0, 999);
            due("at another price, run(" + b + ")", x.run(b), new int[] {-1, 1, -1, 5}[b]);
            x.set(0, 4);
            due("as before, run(" + b + ")", x.run(b), gained[b]);
        }
        int[] ofRun = {13, 7, 6, 11};
        // At 999: 0 NO (-1), 1 YES at 3 (1), 2 at 5: 6+1-5 < 3: NO (-1), 3 YES at 3 (5).
        int[] ofDear = {1 + 3 + 1 + 3, 5, 4, 10};
        for (int what = 10; what <= 13; what++) {
            x.set(0, 999);
            due("at another price, run(" + what + ")", x.run(what), ofDear[what - 10]);
            x.set(0, 4);
            due("as before, run(" + what + ")", x.run(what), ofRun[what - 10]);
        }
        due("run(4)", x.run(4), -100001);
        due("run(-1)", x.run(-1), -100001);
        due("run(9)", x.run(9), -100001);
        due("run(14)", x.run(14), -100001);
        due("nothing came of it", x.told(7), 0);
        due("nor of the price", x.told(4), 4);
        rowIs(x, 0, 1, 2, 3);
        x.go();
        due("loaves since now", x.run(13), 10);
        due("all turns", x.run(12), 6);
        due("gained before counts", x.run(0), 5);
        PennyMore six = new PennyMore();
        for (int b = 0; b < 6; b++) {
            six.buyer(6, 0, 9);
            six.row(b, 1, 3);
        }
        six.row(5, 2, 2);
        six.row(5, 0, 2);
        // Each goes away once at 1; then YES at 1, 2, 3, 4 and 5 (4 is 1 modulo 3, but nobody goes away twice).
        due("six, all goes to the end", six.run(12), 11);
        due("six, who has a loaf", six.run(13), 31);
        six.set(1, 9);
        six.row(5, 0, 2);
        due("six, the last is told NO at 6", six.run(13), 31);
        six.row(5, 0, 1);
        due("six, the last is told YES at 6", six.run(13), 63);
        due("six, the last has gained", six.run(5), 3);
        x.set(1, 1);
        due("till the loaves are gone", x.run(13), 8);
        due("turns then", x.run(12), 4);
        due("five buyers, run(5)", x.run(5), -100001);
    }

    private static void promise15() {
        PennyMore x = new PennyMore();
        due("no turn", x.first(0), -5);
        due("no turn, no such what", x.first(2), -1);
        due("what -1", x.first(-1), -1);
        x.buyer(1, 9, 10);
        x.set(0, 5);
        due("as PLAIN it would not", x.would(0), 2);
        due("it should", x.first(0), 1);
        due("for all it should", x.first(1), 1);
        x.set(0, 10);
        due("of several the least", x.first(0), 1);
        x.set(0, 11);
        due("a loss is worse than a no", x.first(0), 2);
        due("for all, the least: 10 each way but no", x.first(1), 1);
        x.set(1, 0);
        due("no loaves", x.first(0), -5);

        // Away first: the other's no brings the price down to 1.
        x = with("away 1", 9, 5);
        x.buyer(0, 0, 12);
        x.buyer(0, 0, 0);
        due("away is best", x.first(0), 3);
        open(x, "away 0");
        due("may not go away", x.first(0), 1);
        due("for all no matter who is asked", x.first(1), 1);

        // A no of the head costs 5, but saves the one behind.
        x = with("cost 5 b=0;down 1;up 50", 10, 5);
        x.buyer(0, 0, 10);
        x.buyer(0, 0, 60);
        due("for itself yes", x.first(0), 1);
        // YES: till 10 + 60, gained 0 and 0; NO: till 1, gained -5 and 59; AWAY: till 10 + 60 -> 1's yes, 0's no.
        due("for all yes", x.first(1), 1);
        open(x, "down 1;up 50");
        x.buyer(0, 0, 50);
        due("for all", x.first(1), 1);

        // YES: 10 for both together, then a no at 95; NO: the other's 40; AWAY: 40, then a no.
        x = with("up 90;down 1", 5, 5);
        x.buyer(0, 0, 10);
        x.buyer(0, 0, 40);
        due("for itself", x.first(0), 1);
        due("for all", x.first(1), 2);
        x = with("up 90;down 1;away 0", 80, 1);
        x.buyer(0, 0, 85);
        x.buyer(0, 0, 99);
        due("for itself, the only loaf", x.first(0), 1);
        due("for all the other has more of it", x.first(1), 2);
        x = with("fee 3;away 0;cost 1 b=0", 9, 1);
        x.buyer(0, 0, 9);
        x.buyer(0, 0, 9);
        // YES: 9 for all. NO: 3 to the till, -4 for it, and 9 by the other: 8.
        due("for all no is worse by the cost", x.first(1), 1);
    }

    // ---- rows

    private static void promise16() {
        PennyMore x = new PennyMore();
        due("empty, how much", x.order(0, -1), 0);
        due("empty, gained", x.order(1, -1), 0);
        due("empty, the first", x.order(0, 0), -100001);
        // Worths 1, 2, 3 at price 1, up 1: the climbing row sells all: 6.
        x.buyer(0, 0, 3);
        x.buyer(0, 0, 2);
        x.buyer(0, 0, 1);
        due("by run", x.run(10), 3);
        due("till", x.order(0, -1), 6);
        due("row 0", x.order(0, 0), 2);
        due("row 1", x.order(0, 1), 1);
        due("row 2", x.order(0, 2), 0);
        due("row 3", x.order(0, 3), -100001);
        due("row -2", x.order(0, -2), -100001);
        due("what 2", x.order(2, 0), -100001);
        due("what -1", x.order(-1, 0), -100001);
        // Gained: 0, 2, 1: 2, a no at 2, 1; so also 1, 2, 0; all others less.
        due("gained", x.order(1, -1), 3);
        due("gained, the first row by numbers", x.order(1, 0), 0);
        due("then", x.order(1, 1), 2);
        due("then", x.order(1, 2), 1);
        rowIs(x, 0, 1, 2);
        x.buyer(0, 0, 0);
        x.buyer(0, 0, 0);
        due("five may", x.order(0, 4) >= 0 ? 1 : 0, 1);
        x.buyer(0, 0, 0);
        due("six may not", x.order(0, -1), -9);
        due("six may not", x.order(1, 5), -9);
        due("six, no such place", x.order(0, 6), -100001);
        x.go();
        // 1 had been paid; 1 pays 2, 3's no makes it 1, 2 pays that.
        due("five of six may", x.order(0, -1), 1 + 2 + 1);
        int[] best = {1, 3, 2, 4, 5};
        for (int k = 0; k < 5; k++) {
            due("order(0, " + k + ") of five", x.order(0, k), best[k]);
        }
        due("one place fewer", x.order(0, 5), -100001);
        due("all gained, of six of whom five stand", x.order(1, -1), 2 + 1);
        x = with("away 0;cost 3 r>0;fee 2", 99, 5);
        x.buyer(0, 0, 0);
        x.buyer(0, 0, 9);
        // 0 then 1: -5 and 8; 1 then 0: -5 and -1.
        due("gained", x.order(1, -1), 3);
        x = with("cost 3 r>0;fee 2;down 99", 99, 5);
        x.buyer(0, 0, 0);
        x.buyer(0, 0, 9);
        due("only losses", x.order(1, -1), -10);
        due("only losses, the first row", x.order(1, 0), 0);
        due("only losses", x.order(0, -1), 4);
    }

    private static void promise17() {
        PennyMore x = new PennyMore();
        due("nobody", x.letBy(0), 0);
        due("nobody", x.letBy(1), -5);
        due("what 2", x.letBy(2), -1);
        due("what -1", x.letBy(-1), -1);
        // 0 says YES at 5 (gains 5), 1 NO; behind 1's no 0 pays 1 (gains 9) and 1 still 0: both no less.
        x = with("", 5, 5);
        x.buyer(0, 0, 10);
        x.buyer(0, 0, 0);
        due("let by", x.letBy(0), 1);
        due("the first", x.letBy(1), 0);
        x = with("", 5, 5);
        x.buyer(0, 0, 0);
        x.buyer(0, 0, 10);
        due("not so", x.letBy(0), 0);
        due("none", x.letBy(1), -5);
        // Two alike: nobody gains more.
        x = with("", 5, 5);
        x.buyer(0, 0, 0);
        x.buyer(0, 0, 0);
        x.buyer(0, 0, 10);
        x.buyer(0, 0, 0);
        due("no gain for either", x.letBy(0), 0);
        x = with("up 7", 5, 5);
        x.buyer(0, 0, 5);
        x.buyer(0, 0, 20);
        x.buyer(0, 0, 0);
        x.buyer(0, 0, 30);
        x.buyer(0, 0, 0);
        // 0 YES at 5 (0), 1 YES at 12 (8), 2 NO -> 1, 3 YES at 1 (29), 4 NO. 0-1: 0 loses nothing at 12? NO: 0;
        // 1 YES at 5 (15): both no less, one more. 1-2: 1 at 1 (19). 2-3: 3 at 19 (11) less. 3-4: 3 at 1, the same.
        due("two pairs", x.letBy(0), 2);
        due("the first of two", x.letBy(1), 0);
        rowIs(x, 0, 1, 2, 3, 4);
        x = with("", 5, 5);
        x.buyer(0, 0, 5);
        x.buyer(0, 0, 9);
        x.buyer(0, 0, 0);
        // 0 YES at 5 (0), 1 YES at 6 (3). 0-1: 1 at 5 (4), 0 NO at 6 (0). 1-2: 1 at 1 (8).
        due("both pairs", x.letBy(0), 2);
        due("from the head", x.letBy(1), 0);
        // 0 NO, or YES at 1 for 1 once 1 has said NO: one more, the other the same.
        x = with("", 5, 5);
        x.buyer(0, 0, 2);
        x.buyer(0, 0, 0);
        due("one more by 1", x.letBy(0), 1);
        x = with("", 4, 5);
        x.buyer(0, 0, 0);
        x.buyer(0, 0, 5);
        x.buyer(0, 0, 0);
        // 0 NO, 1 YES at 1 (4), 2 NO. 0-1: 1 at 4 (1): less. 1-2: 1 the same.
        due("none has more", x.letBy(0), 0);
        x = with("", 4, 5);
        x.buyer(0, 0, 4);
        x.buyer(0, 0, 6);
        // 0 YES at 4 (0), 1 YES at 5 (1); or 1 YES at 4 (2), 0 NO (0).
        due("the one behind has one more by 1", x.letBy(0), 1);
        x = with("up 1;cost 2 b=0", 5, 5);
        x.buyer(0, 0, 4);
        x.buyer(0, 0, 9);
        x.buyer(0, 0, 0);
        // 0 YES at 5 (-1); with 1 ahead it pays 6 (-2): less. 1-2 stands.
        due("only the second pair", x.letBy(0), 1);
        due("its place", x.letBy(1), 1);
    }

    private static void promise18() {
        PennyMore x = new PennyMore();
        due("nobody", x.lot(0), 0);
        due("nobody, below", x.lot(1), 1);
        due("part 2", x.lot(2), NO);
        due("part -1", x.lot(-1), NO);
        x.buyer(0, 0, 1);
        x.buyer(0, 0, 2);
        // 1 then 2: 1 + 2; 2 then 1: 1 and a no: 1. Mean 2.
        due("above", x.lot(0), 2);
        due("below", x.lot(1), 1);
        x.buyer(0, 0, 3);
        // 123: 6, 132: 1+2 and no: 3, 213: 1, no, price 1: 3 buys: 2; 231: 1+2: 3; 312: 1, no -> 1, 2 buys: 2; 321: 3.
        due("above", x.lot(0), 19);
        due("below", x.lot(1), 6);
        x.set(1, 1);
        due("one loaf", x.lot(0), 1);
        due("one loaf, below", x.lot(1), 1);
        x.buyer(0, 0, 0);
        x.buyer(0, 0, 0);
        due("five may", x.lot(0) == NO ? 1 : 0, 0);
        x.buyer(0, 0, 0);
        due("six may not", x.lot(0), NO);
        due("six may not", x.lot(1), NO);
        rowIs(x, 0, 1, 2, 3, 4, 5);
    }

    private static void promise19() {
        PennyMore x = new PennyMore();
        due("nobody says no", x.fee(), 0);
        x.buyer(0, 0, 0);
        x.set(0, 20);
        due("a fee of 20", x.fee(), 20);
        x.set(0, 21);
        due("none", x.fee(), -5);
        x.set(0, 5);
        open(x, "fee 9");
        due("in place of the shop's", x.fee(), 5);
        due("the shop's stays", x.told(3), 9);
        due("and is paid", x.run(10), 5);
        x.buyer(1, 3, 2);
        // 0 at 5, 1 at 6: 2 + fee - 6 is 3 or more from 7 on.
        due("for both", x.fee(), 7);
        x.set(1, 1);
        due("the second does not come to say it", x.fee(), 5);
        x.set(1, 0);
        due("no turn", x.fee(), 0);
    }

    private static void promise20() {
        PennyMore x = new PennyMore();
        due("nobody", x.onePrice(0), 0);
        due("nobody", x.onePrice(1), 0);
        due("what 2", x.onePrice(2), -1);
        due("what -1", x.onePrice(-1), -1);
        x.buyer(0, 0, 10);
        x.buyer(0, 0, 6);
        x.buyer(0, 0, 5);
        due("15 by three at 5", x.onePrice(0), 5);
        due("how much", x.onePrice(1), 15);
        x.set(1, 2);
        due("12 by two at 6", x.onePrice(0), 6);
        due("how much", x.onePrice(1), 12);
        x.set(1, 1);
        due("10 by one", x.onePrice(0), 10);
        x.set(1, 0);
        due("no loaves", x.onePrice(0), 0);
        due("no loaves", x.onePrice(1), 0);
        x.set(1, 3);
        open(x, "more 99 b=0&p=1");
        due("values now, 99 at most", x.onePrice(0), 99);
        due("how much", x.onePrice(1), 99);
        x.set(0, 2);
        due("values at another price", x.onePrice(0), 5);
        x = new PennyMore();
        x.buyer(0, 0, 8);
        x.buyer(0, 0, 4);
        due("of several the least", x.onePrice(0), 4);
        x.go();
        due("one that left does not buy", x.onePrice(1), 4);
    }

    private static void promise21() {
        PennyMore x = new PennyMore();
        due("no such buyer", x.aunt(0), -100001);
        due("no such buyer", x.aunt(-1), -100001);
        x.buyer(0, 0, 5);
        x.buyer(0, 0, 9);
        x.buyer(0, 0, 9);
        // 0 YES at 1, 1 at 2 (7), 2 at 3 (6); without 0: 8 and 7.
        due("aunt(0)", x.aunt(0), -2);
        due("aunt(1)", x.aunt(1), -1);
        due("aunt(2)", x.aunt(2), 0);
        x.set(1, 2);
        due("with two loaves", x.aunt(0), 7 - (8 + 7));
        due("nothing came of it", x.told(8), 3);
        x.go();
        due("it is not in the row", x.aunt(0), -100003);
        due("no such buyer", x.aunt(3), -100001);
        x = with("down 1", 9, 5);
        x.buyer(0, 0, 0);
        x.buyer(0, 0, 30);
        due("a no is good for the next", x.aunt(0), 29 - 21);
        x = with("more 6 r=2", 1, 5);
        x.buyer(0, 0, 5);
        x.buyer(0, 0, 0);
        due("good for the one ahead", x.aunt(1), 10 - 4);
        x = with("more 6 r=6", 1, 9);
        for (int b = 0; b < 6; b++) {
            x.buyer(0, 0, 9);
        }
        // With all: 14, 7, 6, 5, 4 and 3; without the last: 8, 7, 6, 5, 4.
        due("of six", x.aunt(5), 6);
        // Without the first: 8, 7, 6, 5, 4.
        due("of six, the head", x.aunt(0), 25 - 30);
    }

    // ---- slips, films

    private static void promise22() {
        PennyMore x = new PennyMore();
        due("odds", x.slips(10), 0);
        due("odds", x.slips(3), 10);
        due("-1", x.slips(-1), -2);
        due("11", x.slips(11), -2);
        due("odds", x.slips(0), 3);
    }

    private static void sureIs(PennyMore x, int buyer, long above, long below) {
        due("sure(" + buyer + ", 0)", x.sure(buyer, 0), above);
        due("sure(" + buyer + ", 1)", x.sure(buyer, 1), below);
    }

    private static void promise23() {
        PennyMore x = new PennyMore();
        due("no such buyer", x.sure(0, 0), NO);
        x.buyer(0, 0, 1);
        x.buyer(0, 0, 1);
        x.buyer(0, 0, 9);
        due("part 2", x.sure(0, 2), NO);
        due("part -1", x.sure(0, -1), NO);
        due("no such buyer", x.sure(3, 0), NO);
        due("no such buyer", x.sure(-1, 1), NO);
        sureIs(x, 0, 1, 1);
        sureIs(x, 1, 0, 1);
        sureIs(x, 2, 1, 1);
        x.slips(4);
        // 0 slips: 2/5, then 1 would say YES at 1, and does by 3/5.
        sureIs(x, 0, 3, 5);
        sureIs(x, 1, 6, 25);
        sureIs(x, 2, 3, 5);
        x.set(1, 1);
        sureIs(x, 2, 12, 125);
        due("run knows no slips", x.run(13), 1);
        x.slips(10);
        sureIs(x, 0, 0, 1);
        sureIs(x, 2, 0, 1);
        x.set(1, 0);
        sureIs(x, 0, 0, 1);

        x = with("away 9", 999, 5);
        x.buyer(2, 0, 0);
        sureIs(x, 0, 0, 1);
        x.buyer(0, 0, 0);
        sureIs(x, 1, 0, 1);
        x.buyer(0, 0, 0);
        sureIs(x, 1, 0, 1);
        // Three behind it: with its own way 9 away turns, at 1 behind a no, it says NO or YES: 12 at most.
        x = with("away 9;more 1 p=1;down 9", 10, 5);
        x.buyer(2, 0, 0);
        x.buyer(0, 0, 0);
        x.buyer(0, 0, 0);
        sureIs(x, 0, 0, 1);
        due("12 turns", x.run(12), 12);
        x.buyer(0, 0, 0);
        due("13 turns", x.run(12), 13);
        due("13 turns", x.sure(0, 0), NO);
        due("13 turns, for one not in the way", x.sure(3, 1), NO);

        // A slip alone brings more than 12 turns.
        x = with("away 9;down 50;more 99 b=0", 1, 9);
        x.buyer(0, 0, 0);
        x.buyer(2, 0, 9);
        x.buyer(2, 0, 9);
        due("none without slips", x.sure(1, 0), 1);
        x.slips(1);
        due("more than 12 may come", x.sure(1, 0), NO);
        due("also for the one who is through by then", x.sure(0, 0), NO);
        x.slips(10);
        due("more than 12 come", x.sure(1, 0), NO);

        x = new PennyMore();
        x.buyer(0, 0, 9);
        x.go();
        sureIs(x, 0, 0, 1);
    }

    private static void promise24() {
        PennyMore x = new PennyMore();
        due("film(1)", x.film(1), 1);
        due("film(2)", x.film(2), 2);
        due("film(3)", x.film(3), 3);
        due("film(0)", x.film(0), -1);
        due("film(4)", x.film(4), -1);
        due("film(-2)", x.film(-2), -1);
        due("how many", x.count(2), 3);
        due("emptied", x.film(-1), 0);
        due("none", x.count(2), 0);
        for (int n = 1; n <= 12; n++) {
            due("film", x.film(1), n);
        }
        due("full", x.film(1), -4);
        due("full, no such act", x.film(4), -1);
        due("emptied", x.film(-1), 0);
        due("again", x.film(2), 1);
    }

    private static void promise25() {
        PennyMore x = bakery();
        int[] acts = {1, 3, 2, 1, 3, 1};
        due("no film", x.off(), -5);
        for (int act : acts) {
            x.film(act);
            due("as it was", x.off(), -5);
        }
        x.film(1);
        due("it does not come", x.off(), 6);
        x.film(-1);
        x.film(2);
        x.film(3);
        due("the first is otherwise", x.off(), 0);
        x.film(-1);
        x.film(1);
        x.film(3);
        x.film(1);
        x.film(2);
        due("the third is otherwise", x.off(), 2);
        x.go();
        due("from now on", x.off(), 0);
        rowIs(x, 1, 2, 3);
        due("nothing came of it", x.told(7), 1);
    }

    // ---- judging, the image, acts, tapes

    private static void promise26() {
        PennyMore x = bakery();
        due("tape -1", x.judge(-1, 0), -1);
        due("tape 6", x.judge(6, 0), -1);
        due("holds nothing", x.judge(0, 0), 100);
        due("holds nothing, place below 0", x.judge(0, -1), 100);
        x.tape(1, 3, 9);
        due("longs", x.judge(1, 0), -12);
        due("longs, place below 0", x.judge(1, -1), -12);
        x.tape(2, 2, 6);
        int[] gained = {5, -1, -1, 5};
        for (int b = 0; b < 4; b++) {
            x.item(2, 1 + b, gained[b]);
        }
        due("all as it is", x.judge(2, 1), -5);
        due("from another place", x.judge(2, 0), 0);
        x.item(2, 4, 6);
        due("the last otherwise", x.judge(2, 1), 3);
        due("place below 0", x.judge(2, -1), 100);
        due("beyond the end", x.judge(2, 6), 100);
        due("far beyond the end", x.judge(2, Integer.MAX_VALUE), 100);
        due("far below 0", x.judge(2, Integer.MIN_VALUE), 100);
        x.item(2, 4, 5);
        x.item(2, 5, -1);
        due("ends behind two", x.judge(2, 4), 102);
        x.item(2, 5, 0);
        due("otherwise ahead of the end", x.judge(2, 4), 1);
        due("nothing came of it", x.told(7), 0);
        x = new PennyMore();
        x.tape(0, 2, 0);
        due("no buyer to judge", x.judge(0, 0), -5);
        x.buyer(0, 0, 0);
        due("an empty row", x.judge(0, 0), 100);
        x.tape(0, 0, 9);
        due("bytes", x.judge(0, 0), -12);
    }

    private static PennyMore pictured() {
        PennyMore x = with("away 3;up 4", 9, 7);
        x.buyer(6, 1, 20);
        x.buyer(2, 2, 3);
        x.buyer(0, 0, 30);
        x.friend(1, 2);
        x.row(0, 2, 1);
        x.go();
        x.go();
        x.slips(3);
        x.film(2);
        x.film(1);
        due("image", x.image(), 3);
        return x;
    }

    private static void promise27and28() {
        PennyMore x = new PennyMore();
        due("no image", x.undo(), -3);
        due("image of nobody", x.image(), 0);
        x.buyer(0, 0, 0);
        due("back to nobody", x.undo(), 0);
        due("nobody", x.count(0), 0);
        due("the first again, of another kind", x.buyer(1, 5, 6), 0);
        due("its kind", x.of(0, 0), 1);

        x = pictured();
        x.set(0, 1);
        x.set(1, 1);
        x.buyer(6, 4, 4);
        x.friend(1, 0);
        x.friend(2, 3);
        x.row(0, 2, 3);
        x.go();
        x.back(0);
        x.slips(9);
        x.film(3);
        x.film(-1);
        x.film(3);
        open(x, "up 9;fee 4;more 50 b=1");
        x.feed('u');
        x.tape(0, 0, 4);
        x.act(1, 2, 5);
        due("undo", x.undo(), 3);
        due("buyers", x.count(0), 3);
        due("the new one is gone", x.of(3, 0), -10001);
        int[] zero = {6, 1, 20, -5, 0, -5, 20, 0, 1};
        int[] one = {2, 2, 3, 2, 1, 1, 3, 0, -5};
        int[] two = {0, 0, 30, -5, 0, 0, 30, 0, -5};
        for (int what = 0; what <= 8; what++) {
            due("of(0, " + what + ")", x.of(0, what), zero[what]);
            due("of(1, " + what + ")", x.of(1, what), one[what]);
            due("of(2, " + what + ")", x.of(2, what), two[what]);
        }
        due("gained", x.gained(0), 11);
        int[] told = {4, 1, 3, 0, 13, 6, 9, 2, 2, 2};
        for (int what = 0; what < told.length; what++) {
            due("told(" + what + ")", x.told(what), told[what]);
        }
        due("odds", x.slips(3), 3);
        due("film", x.count(2), 2);
        due("its first", x.off(), 0);
        due("shops are not undone", x.count(1), 2);
        due("nor the text", x.count(3), 1);
        due("nor tapes", x.read(0, 0), 0);
        due("nor the trace", x.count(4), 4);
        due("a new buyer", x.buyer(5, 0, 0), 3);
        due("has no friend", x.of(3, 3), -5);
        due("and has gained nothing", x.gained(3), 0);
        due("undo again", x.undo(), 3);
        due("go", x.go(), 1);
        due("the newest image holds", x.image(), 3);
        x.go();
        x.undo();
        due("turns as in the newest", x.told(7), 3);
        x = pictured();
        x.film(-1);
        x.film(1);
        x.film(3);
        x.undo();
        x.set(0, 31);
        // The film tells 2, 1: with 2's no at 31 and PRICE 1 then, 1 says YES.
        due("the film's acts are back", x.off(), -5);
        x.buyer(6, 0, 0);
        x.row(3, 0, 3);
        x.undo();
        x.buyer(6, 0, 0);
        due("a new TOLD one tells nothing", x.of(3, 8), 0);
        x = new PennyMore();
        x.image();
        open(x, "up 7");
        x.undo();
        due("no shop holds", x.told(0), 1);
        due("but it was read", x.count(1), 1);
        due("the next", open(x, "up 8"), 1);
    }

    private static void acts(int kind, int act, int x, int want, int... bodies) {
        PennyMore p = new PennyMore();
        p.buyer(0, 0, 0);
        p.buyer(0, 0, 0);
        p.buyer(kind, 3, 0);
        due("kind " + kind + " act " + act, p.act(2, act, x), want);
        due("how many bodies", p.count(4), bodies.length);
        for (int i = 0; i < bodies.length; i++) {
            due("kind " + kind + " act " + act + " body " + i, p.trace(i), bodies[i]);
        }
        due("behind the last", p.trace(bodies.length), -1);
        due("trace(-1)", p.trace(-1), -1);
    }

    /** i is 2 and v is 3 throughout. */
    private static void promise29and30() {
        acts(0, 0, 5, 7, 10);
        acts(0, 1, 5, 4, 11, 10);
        acts(0, 2, 5, 8, 12, 11, 10);
        acts(1, 0, 5, 7, 10);
        acts(1, 1, 5, 4 ^ 6, 20, 11, 10);
        acts(1, 2, 5, (4 ^ 6) * 2, 12, 20, 11, 10);
        acts(2, 0, 5, 17, 30, 10);
        acts(2, 1, 5, 14, 11, 30, 10);
        acts(2, 2, 5, 28, 12, 11, 30, 10);
        acts(3, 0, 5, 7, 10);
        acts(3, 1, 5, 4, 11, 10);
        acts(3, 2, 5, 8 + 0, 40, 12, 11, 10, 11, 10);
        acts(4, 0, 5, -7, 50, 10);
        acts(4, 1, 5, (-8 - 3) ^ 6, 51, 20, 11, 50, 10);
        acts(4, 2, 5, ((-8 - 3) ^ 6) * 2, 12, 51, 20, 11, 50, 10);
        acts(5, 0, 5, 17, 30, 10);
        acts(5, 1, 5, 14, 11, 30, 10);
        acts(5, 2, 5, (11 - 3) * 2, 60, 12, 11, 30, 10);
        acts(6, 0, 5, 7 ^ 3, 71, 10);
        acts(6, 1, 5, (7 ^ 3) - 3 + 4, 70, 11, 71, 10, 10);
        acts(6, 2, 5, ((7 ^ 3) - 3 + 4) * 2 + ((3 ^ 3) - 3 + 4),
            40, 12, 70, 11, 71, 10, 10, 70, 11, 71, 10, 10);
        acts(0, 0, Integer.MAX_VALUE, Integer.MIN_VALUE + 1, 10);
        acts(2, 0, Integer.MAX_VALUE, Integer.MAX_VALUE * 3 + 2, 30, 10);

        PennyMore p = new PennyMore();
        p.buyer(0, 0, 0);
        p.act(0, 2, 1);
        due("act 3", p.act(0, 3, 1), 0);
        due("no trace then", p.count(4), 0);
        due("no trace then", p.trace(0), -1);
        p.act(0, 2, 1);
        due("act -1", p.act(0, -1, 1), 0);
        due("no trace then", p.count(4), 0);
        p.act(0, 2, 1);
        due("no such buyer", p.act(1, 0, 1), 0);
        due("no trace then", p.count(4), 0);
        p.act(0, 2, 1);
        due("buyer -1", p.act(-1, 0, 1), 0);
        due("no trace then", p.trace(0), -1);
        due("trace far off", p.trace(Integer.MAX_VALUE), -1);
        due("trace(20)", p.trace(20), -1);
    }

    private static void promise31() {
        int[][] under = {{1, 1, 1, 1, 1, 1, 1}, {0, 1, 0, 0, 1, 0, 0}, {0, 0, 1, 0, 0, 1, 0}, {0, 0, 0, 1, 0, 0, 1},
            {0, 0, 0, 0, 1, 0, 0}, {0, 0, 0, 0, 0, 1, 0}, {0, 0, 0, 0, 0, 0, 1}};
        for (int kind = 0; kind <= 6; kind++) {
            PennyMore x = new PennyMore();
            x.buyer(kind, 0, 0);
            for (int k = 0; k <= 6; k++) {
                due("kind " + kind + " taken for " + k, x.taken(0, k), under[k][kind] == 1 ? kind : -12);
            }
            due("kind 7", x.taken(0, 7), -2);
            due("kind -1", x.taken(0, -1), -2);
            due("no such buyer", x.taken(1, 0), -11);
            due("buyer -1", x.taken(-1, 6), -11);
            due("no such buyer, kind 7", x.taken(1, 7), -2);
        }
    }

    private static void promise32() {
        PennyMore x = new PennyMore();
        x.buyer(6, 0, 0);
        x.buyer(0, 0, 0);
        open(x, "up 1");
        open(x, "up 1");
        open(x, "up 1");
        x.film(1);
        x.feed('a');
        x.feed('b');
        x.feed('c');
        x.feed('d');
        x.act(0, 1, 1);
        int[] counts = {2, 3, 1, 4, 5};
        for (int what = 0; what <= 4; what++) {
            due("count(" + what + ")", x.count(what), counts[what]);
        }
        due("count(5)", x.count(5), -2);
        due("count(-1)", x.count(-1), -2);
    }

    private static void promise33() {
        PennyMore x = new PennyMore();
        due("tape -1", x.tape(-1, 0, 1), -1);
        due("tape 6", x.tape(6, 5, 61), -1);
        due("sort 5", x.tape(0, 5, 1), -2);
        due("sort -2", x.tape(0, -2, -1), -2);
        due("61", x.tape(0, 0, 61), -2);
        due("-1", x.tape(0, 0, -1), -14);
        due("nothing yet", x.read(0, 0), NO);
        due("60", x.tape(0, 2, 60), 1);
        due("the last", x.read(0, 59), 0);
        due("behind it", x.read(0, 60), NO);
        x.item(0, 59, 5);
        x.item(0, 0, 5);
        due("bad ones change nothing", x.tape(0, 2, 61), -2);
        due("it stays", x.read(0, 0), 5);
        due("again", x.tape(0, 3, 60), 1);
        due("all 0", x.read(0, 59), 0);
        due("all 0", x.read(0, 0), 0);
        due("0 items", x.tape(0, 4, 0), 1);
        due("a row of no items", x.item(0, 0, 1), -13);
        due("nothing", x.tape(0, -1, -99), 1);
        due("nothing is there", x.item(0, 0, 1), -11);
        due("nothing is there to read", x.read(0, 0), NO);
        due("the others hold nothing", x.item(5, 0, 1), -11);
    }

    private static void promise34and35() {
        long[] wants = {0x88, 0x7788, 0x55667788L, 0x1122334455667788L, 1};
        PennyMore x = new PennyMore();
        for (int sort = 0; sort <= 4; sort++) {
            x.tape(sort, sort, 2);
            due("item", x.item(sort, 1, 0x1122334455667788L), 1);
            long want = sort == 0 ? -120 : wants[sort];
            due("read of sort " + sort, x.read(sort, 1), want);
            due("the other item", x.read(sort, 0), 0);
            due("-1", x.item(sort, 0, -1), 1);
            due("read of -1", x.read(sort, 0), sort == 4 ? 1 : -1);
            due("0", x.item(sort, 0, 0), 1);
            due("read of 0", x.read(sort, 0), 0);
            due("place -1", x.item(sort, -1, 0), -13);
            due("place 2", x.item(sort, 2, 0), -13);
            due("read place -1", x.read(sort, -1), NO);
            due("read place 2", x.read(sort, 2), NO);
        }
        x.item(0, 0, 128);
        due("a byte of 128", x.read(0, 0), -128);
        x.item(1, 0, 32768);
        due("a short of 32768", x.read(1, 0), -32768);
        x.item(2, 0, 2147483648L);
        due("an int of 2147483648", x.read(2, 0), Integer.MIN_VALUE);
        x.item(4, 0, 256);
        due("a boolean of 256", x.read(4, 0), 1);
        x.item(4, 0, 1L << 40);
        due("a boolean of a long", x.read(4, 0), 1);
        due("item, tape -1", x.item(-1, 0, 0), -1);
        due("item, tape 6", x.item(6, 0, 0), -1);
        due("item of nothing", x.item(5, -1, 0), -11);
        due("read, tape -1", x.read(-1, 0), NO);
        due("read, tape 6", x.read(6, 0), NO);
        due("read of nothing", x.read(5, 0), NO);
    }

    private static void promise36() {
        PennyMore x = new PennyMore();
        x.tape(0, 2, 5);
        x.tape(1, 2, 3);
        x.tape(2, 3, 5);
        x.tape(3, 2, 0);
        for (int i = 0; i < 5; i++) {
            x.item(0, i, i + 1);
        }
        due("to another", x.shift(0, 3, 1, 1, 2), 2);
        due("ahead", x.read(1, 0), 0);
        due("first", x.read(1, 1), 4);
        due("second", x.read(1, 2), 5);
        due("to itself, up", x.shift(0, 0, 0, 1, 4), 4);
        int[] up = {1, 1, 2, 3, 4};
        for (int i = 0; i < 5; i++) {
            due("up, item " + i, x.read(0, i), up[i]);
        }
        due("to itself, down", x.shift(0, 2, 0, 0, 3), 3);
        int[] down = {2, 3, 4, 3, 4};
        for (int i = 0; i < 5; i++) {
            due("down, item " + i, x.read(0, i), down[i]);
        }
        due("none at the ends", x.shift(0, 5, 1, 3, 0), 0);
        due("none of none", x.shift(3, 0, 3, 0, 0), 0);
        due("beyond the first's end", x.shift(0, 4, 1, 0, 2), -13);
        due("beyond the other's end", x.shift(0, 0, 1, 2, 2), -13);
        due("too many", x.shift(0, 0, 1, 0, 4), -13);
        due("n -1", x.shift(0, 0, 1, 0, -1), -13);
        due("i -1", x.shift(0, -1, 1, 0, 1), -13);
        due("j -1", x.shift(0, 0, 1, -1, 1), -13);
        due("i beyond, n 0", x.shift(0, 6, 1, 0, 0), -13);
        due("j beyond, n 0", x.shift(0, 0, 1, 4, 0), -13);
        int max = Integer.MAX_VALUE;
        due("all too much", x.shift(0, max, 1, max, max), -13);
        due("n too much", x.shift(0, 1, 1, 1, max), -13);
        due("all too little", x.shift(0, Integer.MIN_VALUE, 1, Integer.MIN_VALUE, Integer.MIN_VALUE), -13);
        due("unlike", x.shift(0, 0, 2, 0, -1), -12);
        due("from nothing", x.shift(4, 0, 0, 0, -1), -11);
        due("to nothing", x.shift(0, 0, 4, 0, 1), -11);
        due("no such tape", x.shift(6, 0, 4, 0, 1), -1);
        due("no such other", x.shift(0, 0, -1, 0, 1), -1);
        due("nothing to no such other", x.shift(4, 0, 6, 0, 1), -1);
        for (int i = 0; i < 5; i++) {
            due("as before, item " + i, x.read(0, i), down[i]);
        }
    }

    public static void main(String[] args) {
        promise1();
        promise2();
        promise3();
        promise4();
        promise5();
        promise6();
        promise7();
        promise8();
        promise9();
        promise10();
        promise11();
        promise12();
        promise13();
        promise14();
        promise15();
        promise16();
        promise17();
        promise18();
        promise19();
        promise20();
        promise21();
        promise22();
        promise23();
        promise24();
        promise25();
        promise26();
        promise27and28();
        promise29and30();
        promise31();
        promise32();
        promise33();
        promise34and35();
        promise36();
        System.out.println(passed + " passed, " + failed + " failed");
        if (failed != 0) {
            System.exit(1);
        }
    }
}
