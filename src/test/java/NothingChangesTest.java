import java.util.ArrayList;
import java.util.Arrays;
import java.util.List;

/**
 * What is refused changes nothing; what is asked changes nothing. Two objects are brought to the same state, one of
 * them gets a call more, and both then answer the same questions and go through the same changes to the end.
 */
public final class NothingChangesTest {
    private static final String[] BUYERS = {"-1", "0", "1", "2", "3", "4", "5", "6", "MAX"};
    private static final List<String> PROBE = new ArrayList<>();

    private static final String TEXTLESS = "buyer 0 0 9, buyer 6 2 8, buyer 2 1 3, buyer 3 1 9, buyer 5 3 6, friend 3 0, friend 0 4, "
        + "row 1 0 1, row 1 2 3, open more 2 r>3;cost 1 k=2;up 2;down 3;away 2;fee 1, set 0 2, slips 3, film 1, film 3, image, "
        + "go, film 2, slips 4, tape 0 2 3, item 0 1 7, tape 1 3 2, item 1 0 8, tape 2 2 1, tape 3 4 2, tape 4 0 0, act 3 2 4";
    private static final String RICH = TEXTLESS + ", feed 117, feed 112, feed 32, feed 55";
    private static final String FULL = "buyer 5 4 9, buyer 1 1 8, buyer 4 2 0, buyer 6 1 9, buyer 2 1 5, buyer 3 1 9, friend 5 0, "
        + "row 3 1 2, open up 1, open up 2, open up 3, open up 4, open fee 5, open up 2;away 2;fee 1;more 1 f=1, set 1 9, image, "
        + Script.times("film 1", 12) + ", " + Script.times("feed 48", 100) + ", tape 0 2 60, item 0 59 4, tape 5 2 60, "
        + "item 5 0 3, tape 3 0 60, slips 10, act 3 2 7";
    private static final String SOLD_OUT = "set 1 2, buyer 0 0 9, buyer 6 0 9, buyer 2 0 5, row 1 0 3, go, go, film 1, act 1 1 1, "
        + "tape 0 2 3, item 0 0 8, item 0 1 7, feed 120";
    private static final String WAITED = "open away 3;down 0;more 3 a>0;cost 2 f=0, set 0 9, buyer 2 0 5, buyer 5 1 8, buyer 0 0 3, "
        + "friend 0 2, go, go, go, image, go, film 3, film 3, slips 1";
    private static final String[] STATES = {"", RICH, FULL, SOLD_OUT, WAITED};

    private static void probe(String... calls) {
        for (String call : calls) {
            PROBE.addAll(Arrays.asList(call.split(", ")));
        }
    }

    /** Asks for each number from least to most, put in place of #. */
    private static void probeEach(String call, int least, int most) {
        for (int n = least; n <= most; n++) {
            probe(call.replace("#", "" + n));
        }
    }

    private static void probeState() {
        for (int b = 0; b < 6; b++) {
            probeEach("of " + b + " #", 0, 8);
        }
        probeEach("gained #", 0, 5);
        probeEach("told #", 0, 9);
        probeEach("count #", 0, 3);
    }

    private static void fillProbe() {
        probeState();
        probe("count 4");
        probeEach("trace #", 0, 12);
        probeEach("would #", 0, 5);
        probeEach("run #", 10, 13);
        probeEach("run #", 0, 5);
        probe("first 0, first 1, letBy 0, lot 0, fee, onePrice 0, onePrice 1, order 0 -1, order 1 0, off");
        probeEach("sure # 0", 0, 5);
        probeEach("judge # 0", 0, 5);
        probeEach("item # 0 1", 0, 5);
        for (String place : new String[] {"1", "59"}) {
            probeEach("read # " + place, 0, 5);
        }
        // From here on the object changes: THE TEXT, the odds and THE IMAGE are seen by what becomes of them.
        probe("slips 2, film 2, off, shop, told 0, told 3, count 3, go, go, undo, slips 0, off");
        probeState();
        probe("go, run 12, buyer 1 2 3, undo");
    }

    private static Script made(String state) {
        return new Script("what is refused or only asked changes nothing", state);
    }

    private static long[] answers(Script s) {
        long[] all = new long[PROBE.size()];
        for (int i = 0; i < all.length; i++) {
            all[i] = s.ask(PROBE.get(i));
        }
        return all;
    }

    private static void alike(Script s, String call, long[] wants) {
        long[] gots = answers(s);
        for (int i = 0; i < gots.length; i++) {
            s.due(PROBE.get(i) + " behind " + call, gots[i], wants[i]);
        }
    }

    private static List<String> with(String name, String[]... given) {
        List<String> calls = new ArrayList<>();
        calls.add(name);
        for (String[] words : given) {
            List<String> longer = new ArrayList<>();
            for (String call : calls) {
                for (String word : words) {
                    longer.add(call + " " + word);
                }
            }
            calls = longer;
        }
        return calls;
    }

    private static String[] words(String all) {
        return all.split(" ");
    }

    private static List<String> asked() {
        List<String> calls = new ArrayList<>();
        calls.addAll(with("of", BUYERS, words("-1 0 3 5 6 7 8 9")));
        calls.addAll(with("gained", BUYERS));
        calls.addAll(with("told", words("-1 0 5 9 10")));
        calls.addAll(with("would", BUYERS));
        calls.addAll(with("run", words("-1 0 1 2 3 4 5 6 9 10 11 12 13 14")));
        for (String name : words("first letBy onePrice")) {
            calls.addAll(with(name, words("-1 0 1 2")));
        }
        calls.addAll(with("order", words("-1 0 1 2"), words("-2 -1 0 2 4 5 6")));
        calls.addAll(with("lot", words("-1 0 1 2")));
        calls.add("fee");
        calls.add("off");
        calls.addAll(with("aunt", BUYERS));
        calls.addAll(with("sure", BUYERS, words("-1 0 1 2")));
        calls.addAll(with("judge", BUYERS, words("-1 0 1 59 60 MAX")));
        calls.addAll(with("trace", words("-1 0 1 11 12 20")));
        calls.addAll(with("taken", BUYERS, words("-1 0 3 6 7")));
        calls.addAll(with("count", words("-1 0 1 2 3 4 5")));
        calls.addAll(with("read", BUYERS, words("-1 0 2 59 60")));
        return calls;
    }

    private static List<String> changing() {
        List<String> calls = new ArrayList<>();
        calls.addAll(with("buyer", words("-1 0 6 7"), words("-1 0 9 10"), words("-1 0 99 100")));
        calls.addAll(with("friend", BUYERS, BUYERS));
        calls.addAll(with("row", BUYERS, words("-1 0 2 3"), words("-1 0 3 4")));
        calls.addAll(with("back", BUYERS));
        calls.addAll(with("set", words("-1 0 1 2"), words("-1 0 9 10 999 1000")));
        calls.addAll(with("feed", words("-1 0 127 128")));
        calls.addAll(with("slips", words("-1 0 10 11")));
        calls.addAll(with("film", words("-2 -1 0 1 3 4")));
        calls.add("go");
        calls.add("undo");
        calls.add("shop");
        calls.addAll(with("tape", BUYERS, words("-2 -1 0 4 5"), words("-1 0 60 61")));
        calls.addAll(with("item", BUYERS, words("-1 0 2 59 60"), words("5")));
        calls.addAll(with("shift", words("-1 0 3 5 6"), words("-1 0 59 60"), words("0 1 5 6"), words("-1 0 60"), words("-1 0 1 60 61")));
        return calls;
    }

    /** Whether an answer of a call that may change something tells that it did not. */
    private static boolean refused(String call, long answer) {
        switch (call.split(" ")[0]) {
            case "go":
                return answer == 0;
            case "shop":
                return answer == PennyMore.FULL;
            case "friend":
                return answer == PennyMore.NONE || answer == PennyMore.BAD;
            case "shift":
                return answer <= 0;
            default:
                return answer < 0;
        }
    }

    private static void actsLeaveTheirTraceAlone(String state) {
        long[] wants = answers(made(state).go("act 0 1 2"));
        for (String call : with("act", BUYERS, words("-1 0 1 2 3"), words("MIN 5"))) {
            alike(made(state).go(call, "act 0 1 2"), call, wants);
        }
    }

    private static void faultsEmptyTheTextAlone() {
        String[] texts = {"x", "up 9!", "more 9 b<9;cost 9 b<9;up 9;down 9;away 9;fee 9;", "more 9 b<9;fee 9;more 9 ((((("};
        for (String state : new String[] {"", TEXTLESS, WAITED}) {
            long[] wants = answers(made(state));
            for (String text : texts) {
                Script s = made(state);
                s.go("open " + text);
                alike(s, "a FAULT", wants);
            }
        }
    }

    public static void main(String[] args) {
        fillProbe();
        int refusals = 0;
        for (String state : STATES) {
            long[] wants = answers(made(state));
            for (String call : asked()) {
                Script s = made(state);
                long once = s.ask(call);
                s.due(call + " again", s.ask(call), once);
                alike(s, call, wants);
            }
            for (String call : changing()) {
                Script s = made(state);
                if (refused(call, s.ask(call))) {
                    refusals++;
                    alike(s, call, wants);
                }
            }
            actsLeaveTheirTraceAlone(state);
        }
        faultsEmptyTheTextAlone();
        System.out.println(refusals + " refusals");
        Script.end();
    }
}
