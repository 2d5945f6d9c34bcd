/** The edges that Terms 4 name: TAPES, what is JUDGED, the host's refusals. */
public final class TapesEdgesTest {
    private static void edge(String sentence, String... lines) {
        Script.edge(sentence, lines);
    }

    private static void tapes() {
        edge("TAPES 0 .. 5 hold nothing (at first)", "item 0 0 1 = NOTHING, item 5 0 1 = NOTHING, item -1 0 1 = NONE",
            "item 6 0 1 = NONE, read 0 0 = NO, read 5 0 = NO, read -1 0 = NO, read 6 0 = NO, judge 0 0 = 100",
            "judge 5 0 = 100, shift 0 0 5 0 0 = NOTHING, shift 5 0 5 0 0 = NOTHING");
        edge("TAPES 0 .. 5: each by itself", "tape 0 0 1 = 1, tape 5 3 2 = 1, item 0 0 7 = 1, item 5 1 8 = 1, read 0 0 = 7",
            "read 5 1 = 8, read 5 0 = 0, item 1 0 1 = NOTHING, item 4 0 1 = NOTHING, tape -1 0 1 = NONE, tape 6 0 1 = NONE",
            "tape MIN 0 1 = NONE, tape MAX 0 1 = NONE");
        edge("A TAPE becomes a row of n (0 .. 60): 0", "tape 0 2 0 = 1, read 0 0 = NO, item 0 0 1 = PLACE, item 0 -1 1 = PLACE",
            "shift 0 0 0 0 0 = 0, shift 0 0 0 0 1 = PLACE, shift 0 1 0 0 0 = PLACE");
        edge("A TAPE becomes a row of n (0 .. 60): 60", "tape 0 3 60 = 1, item 0 59 9 = 1, read 0 59 = 9, item 0 60 9 = PLACE",
            "read 0 60 = NO, tape 0 3 61 = BAD, tape 0 3 MAX = BAD, read 0 59 = 9, item 0 0 8 = 1, read 0 0 = 8");
        edge("A TAPE becomes a row: SIZE: a size below 0", "tape 0 2 3 = 1, item 0 2 5, tape 0 2 -1 = SIZE, tape 0 2 MIN = SIZE",
            "read 0 2 = 5");
        edge("A TAPE becomes a row of a sort: 0 to 4", "tape 0 0 1 = 1, tape 1 1 1 = 1, tape 2 2 1 = 1, tape 3 3 1 = 1",
            "tape 4 4 1 = 1, tape 5 5 1 = BAD, tape 5 -2 1 = BAD, tape 5 MAX 1 = BAD, tape 5 MIN 1 = BAD",
            "item 5 0 1 = NOTHING");
        edge("A TAPE becomes a row, all 0", "tape 0 3 3, item 0 0 1, item 0 1 2, item 0 2 3, tape 0 3 3 = 1, read 0 0 = 0",
            "read 0 1 = 0, read 0 2 = 0, item 0 1 4, tape 0 2 60 = 1, read 0 1 = 0, read 0 59 = 0");
        edge("or holds nothing (sort -1: n does not matter)", "tape 0 2 3, item 0 1 5, tape 0 -1 61 = 1, read 0 1 = NO",
            "item 0 1 5 = NOTHING, tape 0 -1 -1 = 1, tape 0 -1 MIN = 1, tape 0 -1 MAX = 1, tape 0 2 3, read 0 1 = 0",
            "tape -1 -1 0 = NONE, tape 6 -1 0 = NONE");
        edge("a smaller row ends where it ends", "tape 0 3 9, item 0 8 5, tape 0 3 2, read 0 8 = NO, read 0 2 = NO",
            "item 0 2 1 = PLACE, shift 0 1 0 0 2 = PLACE, tape 0 3 9, read 0 8 = 0");
    }

    private static void items() {
        edge("v (its lowest bits, as many as an item has): bytes", "tape 0 0 1, item 0 0 127, read 0 0 = 127, item 0 0 128",
            "read 0 0 = -128, item 0 0 255, read 0 0 = -1, item 0 0 256, read 0 0 = 0, item 0 0 -128, read 0 0 = -128",
            "item 0 0 -129, read 0 0 = 127, item 0 0 9223372036854775807, read 0 0 = -1, item 0 0 NO, read 0 0 = 0");
        edge("v (its lowest bits, as many as an item has): shorts", "tape 0 1 1, item 0 0 32767, read 0 0 = 32767",
            "item 0 0 32768, read 0 0 = -32768, item 0 0 65535, read 0 0 = -1, item 0 0 65536, read 0 0 = 0",
            "item 0 0 -32769, read 0 0 = 32767, item 0 0 9223372036854775807, read 0 0 = -1, item 0 0 NO, read 0 0 = 0");
        edge("v (its lowest bits, as many as an item has): ints", "tape 0 2 1, item 0 0 MAX, read 0 0 = MAX",
            "item 0 0 2147483648, read 0 0 = MIN, item 0 0 4294967295, read 0 0 = -1, item 0 0 4294967296, read 0 0 = 0",
            "item 0 0 -2147483649, read 0 0 = MAX, item 0 0 9223372036854775807, read 0 0 = -1, item 0 0 NO, read 0 0 = 0");
        edge("v (its lowest bits, as many as an item has): longs", "tape 0 3 1, item 0 0 9223372036854775807",
            "read 0 0 = 9223372036854775807, item 0 0 NO = 1, read 0 0 = NO, item 0 0 4294967296, read 0 0 = 4294967296");
        edge("booleans: whether v is not 0", "tape 0 4 1, item 0 0 1, read 0 0 = 1, item 0 0 0, read 0 0 = 0, item 0 0 2",
            "read 0 0 = 1, item 0 0 -1, read 0 0 = 1, item 0 0 0, item 0 0 256, read 0 0 = 1, item 0 0 0",
            "item 0 0 4294967296, read 0 0 = 1, item 0 0 0, item 0 0 NO, read 0 0 = 1");
        edge("PLACE (-13): no such place", "tape 0 2 3, item 0 -1 5 = PLACE, item 0 3 5 = PLACE, item 0 MIN 5 = PLACE",
            "item 0 MAX 5 = PLACE, item 0 0 5 = 1, item 0 2 6 = 1, read 0 -1 = NO, read 0 3 = NO, read 0 MIN = NO",
            "read 0 MAX = NO, read 0 0 = 5, read 0 1 = 0, read 0 2 = 6");
    }

    private static final String TWO = "tape 0 2 5, tape 1 2 3, item 0 0 1, item 0 1 2, item 0 2 3, item 0 3 4, item 0 4 5";
    private static final String AS_BEFORE = "read 0 0 = 1, read 0 1 = 2, read 0 2 = 3, read 0 3 = 4, read 0 4 = 5";

    private static void shifts() {
        edge("shift: all of a TAPE, and to the very ends", TWO, "shift 0 2 1 0 3 = 3, read 1 0 = 3, read 1 1 = 4, read 1 2 = 5",
            "shift 0 0 1 2 1 = 1, read 1 2 = 1, read 1 1 = 4, shift 0 4 1 0 1 = 1, read 1 0 = 5", AS_BEFORE,
            "shift 0 0 0 0 5 = 5", AS_BEFORE);
        edge("shift: none, at the ends and behind them", TWO, "shift 0 5 1 3 0 = 0, shift 0 0 1 0 0 = 0, shift 0 6 1 0 0 = PLACE",
            "shift 0 0 1 4 0 = PLACE", AS_BEFORE, "read 1 0 = 0, read 1 2 = 0");
        edge("shift: as they all were before: up", TWO, "shift 0 0 0 1 4 = 4, read 0 0 = 1, read 0 1 = 1, read 0 2 = 2",
            "read 0 3 = 3, read 0 4 = 4");
        edge("shift: as they all were before: down", TWO, "shift 0 1 0 0 4 = 4, read 0 0 = 2, read 0 1 = 3, read 0 2 = 4",
            "read 0 3 = 5, read 0 4 = 5");
        edge("shift: PLACE: n, i or j is below 0", TWO, "shift 0 0 1 0 -1 = PLACE, shift 0 -1 1 0 1 = PLACE",
            "shift 0 0 1 -1 1 = PLACE, shift 0 -1 1 0 0 = PLACE, shift 0 0 1 -1 0 = PLACE, shift 0 5 1 3 -1 = PLACE",
            "shift 0 MIN 1 0 1 = PLACE, shift 0 0 1 MIN 1 = PLACE, shift 0 0 1 0 MIN = PLACE, shift 0 MIN 1 MIN MIN = PLACE",
            AS_BEFORE, "read 1 0 = 0");
        edge("shift: PLACE: or beyond either's end", TWO, "shift 0 3 1 0 3 = PLACE, shift 0 2 1 0 3 = 3, shift 0 0 1 1 3 = PLACE",
            "shift 0 0 1 0 4 = PLACE, shift 1 0 0 3 3 = PLACE, shift 1 1 0 0 3 = PLACE, shift 0 5 1 0 1 = PLACE",
            "shift 0 0 1 3 1 = PLACE, shift 1 0 0 0 4 = PLACE", AS_BEFORE, "read 1 0 = 3, read 1 1 = 4, read 1 2 = 5");
        edge("shift: PLACE: sums that wrap", TWO, "shift 0 MAX 1 0 1 = PLACE, shift 0 0 1 MAX 1 = PLACE, shift 0 0 1 0 MAX = PLACE",
            "shift 0 MAX 1 MAX MAX = PLACE, shift 0 1 1 1 MAX = PLACE, shift 0 MAX 1 MAX 0 = PLACE", AS_BEFORE);
        edge("shift: CAST: of unlike sorts", "tape 0 0 1, tape 1 1 1, tape 2 2 1, tape 3 3 1, tape 4 4 1",
            "shift 0 0 1 0 1 = CAST, shift 1 0 2 0 1 = CAST, shift 2 0 3 0 1 = CAST, shift 3 0 4 0 1 = CAST",
            "shift 4 0 0 0 1 = CAST, shift 0 0 4 0 0 = CAST, shift 4 0 4 0 1 = 1, shift 0 0 0 0 1 = 1");
    }

    private static void judged() {
        String three = "buyer 0 0 9, buyer 1 9 0, buyer 0 0 5, open fee 2 = 0, run 0 = 8, run 1 = -2, run 2 = 4, tape 0 2 5";
        String right = "item 0 0 8, item 0 1 -2, item 0 2 4";
        edge("JUDGED against RUN: the first BUYER of whom it is otherwise; -5: none", three, right,
            "judge 0 0 = -5, item 0 2 3, judge 0 0 = 2, item 0 1 2, judge 0 0 = 1, item 0 0 9, judge 0 0 = 0, gained 0 = 0",
            right, "judge 0 0 = -5, item 0 0 7, judge 0 0 = 0");
        edge("JUDGED: from a place on", three, "item 0 2 8, item 0 3 -2, item 0 4 4, judge 0 2 = -5, judge 0 1 = 0",
            "judge 0 0 = 0, tape 1 2 60, item 1 57 8, item 1 58 -2, item 1 59 4, judge 1 57 = -5");
        edge("JUDGED: 100 and how many were looked at, if the row ends ahead of that", three,
            "item 0 3 8, item 0 4 -2, judge 0 3 = 102, item 0 4 8, judge 0 3 = 1, judge 0 4 = 101, judge 0 5 = 100",
            "judge 0 6 = 100, judge 0 MAX = 100, tape 0 2 0, judge 0 0 = 100");
        edge("JUDGED: (or the place is below 0, or the TAPE holds nothing)", three, right,
            "judge 0 -1 = 100, judge 0 MIN = 100, judge 1 0 = 100, judge 1 -1 = 100, judge 1 MAX = 100, tape 0 -1 0",
            "judge 0 0 = 100");
        edge("JUDGED with no BUYERS: none is otherwise", "tape 0 2 0, judge 0 0 = -5, tape 0 2 3, judge 0 3 = -5, item 0 0 5",
            "judge 0 0 = -5, judge 0 -1 = 100");
        edge("JUDGED with six BUYERS", Script.times("buyer 0 0 1", 6), "tape 0 2 6, judge 0 0 = -5, judge 0 1 = 105",
            "item 0 5 1, judge 0 0 = 5, tape 0 2 5, judge 0 0 = 105");
        edge("JUDGED: also who is out of THE ROW", "buyer 0 0 9, go = 1, tape 0 2 1, judge 0 0 = 0, item 0 0 8, judge 0 0 = -5");
        edge("CAST: it is no row of ints", "tape 0 0 6, tape 1 1 6, tape 2 2 6, tape 3 3 6, tape 4 4 6, judge 0 0 = CAST",
            "judge 1 0 = CAST, judge 2 0 = -5, judge 3 0 = CAST, judge 4 0 = CAST, judge 0 -1 = CAST, judge 3 6 = CAST");
        edge("judge: NONE: tape", "judge -1 0 = NONE, judge 6 0 = NONE, judge MIN -1 = NONE, judge MAX 0 = NONE");
    }

    private static void kinds() {
        edge("taken for one of KIND k (0 .. 6), or one under that", "buyer 0 0 0, buyer 1 0 0, buyer 2 0 0, buyer 3 0 0",
            "buyer 4 0 0, buyer 5 0 0", Script.times("taken 0 0 = 0, taken 1 0 = 1, taken 2 0 = 2, taken 3 0 = 3", 1),
            "taken 4 0 = 4, taken 5 0 = 5, taken 4 1 = 4, taken 5 2 = 5, taken 1 1 = 1, taken 2 2 = 2, taken 3 3 = 3",
            "taken 4 4 = 4, taken 5 5 = 5");
        edge("CAST (-12): another KIND", "buyer 0 0 0, buyer 1 0 0, buyer 2 0 0, buyer 3 0 0, buyer 4 0 0, buyer 5 0 0",
            "taken 0 1 = CAST, taken 0 2 = CAST, taken 0 3 = CAST, taken 0 4 = CAST, taken 0 5 = CAST, taken 0 6 = CAST",
            "taken 1 2 = CAST, taken 1 3 = CAST, taken 1 4 = CAST, taken 2 1 = CAST, taken 2 3 = CAST, taken 2 5 = CAST",
            "taken 3 1 = CAST, taken 3 2 = CAST, taken 3 6 = CAST, taken 4 2 = CAST, taken 4 3 = CAST, taken 4 5 = CAST",
            "taken 4 6 = CAST, taken 5 1 = CAST, taken 5 3 = CAST, taken 5 4 = CAST, taken 5 6 = CAST");
        edge("taken: TOLD under FALLING under BUYER", "buyer 6 0 0, taken 0 0 = 6, taken 0 3 = 6, taken 0 6 = 6",
            "taken 0 1 = CAST, taken 0 2 = CAST, taken 0 4 = CAST, taken 0 5 = CAST");
        edge("taken: BAD: k; NOTHING: no such BUYER", "taken 0 0 = NOTHING, taken 0 6 = NOTHING, taken 0 -1 = BAD",
            "taken 0 7 = BAD, buyer 0 0 0, taken 0 -1 = BAD, taken 0 7 = BAD, taken 0 MIN = BAD, taken 0 MAX = BAD",
            "taken -1 0 = NOTHING, taken 1 0 = NOTHING, taken 6 0 = NOTHING, taken MIN 0 = NOTHING, taken MAX 6 = NOTHING",
            "taken 0 0 = 0");
    }

    public static void main(String[] args) {
        tapes();
        items();
        shifts();
        judged();
        kinds();
        Script.end();
    }
}
