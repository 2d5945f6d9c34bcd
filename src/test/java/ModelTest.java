import java.util.Random;

/** Runs of 512 mixed calls, the same ones for PennyMore and for Model: each answer has to be the same. */
public final class ModelTest {
    private static final int RUNS = 400;
    private static final int CALLS = 512;
    private static final String[] E = {"b=0", "b>1", "k<3", "k=5", "p>6", "p<9", "p=1", "l<3", "l=4", "r>2", "r<5",
        "r=1", "a=0", "a>1", "f=1", "f=0", "f>0"};
    private static final int[] ODD = {-1, -2, 6, 7, 9, 10, 11, 12, 13, 60, 61, 99, 100, 999, 1000, Integer.MIN_VALUE,
        Integer.MAX_VALUE};

    private final Random lot;
    private final int run;
    private final PennyMore x = new PennyMore();
    private final Model m = new Model();
    private int calls;
    private int wrong;

    private ModelTest(int run) {
        this.run = run;
        lot = new Random(run);
    }

    private int in(int least, int most) {
        return least + lot.nextInt(most - least + 1);
    }

    /** Mostly a number that is as told, now and then another one. */
    private int some(int least, int most) {
        return lot.nextInt(25) == 0 ? ODD[lot.nextInt(ODD.length)] : in(least, most);
    }

    private void due(String call, long got, long want) {
        calls++;
        if (got != want) {
            wrong++;
            System.out.println("run " + run + ", call " + calls + ": " + call + " answered " + got + ", due is " + want);
        }
    }

    private String expression(int depth) {
        int way = lot.nextInt(8);
        if (depth > 4 || way < 4) {
            return E[lot.nextInt(E.length)];
        }
        switch (way) {
            case 4: return "!" + expression(depth + 1);
            case 5: return "(" + expression(depth + 1) + ")";
            case 6: return expression(depth + 1) + "|" + expression(depth + 1);
            default: return expression(depth + 1) + "&" + expression(depth + 1);
        }
    }

    private String clause() {
        switch (lot.nextInt(8)) {
            case 0: return "up " + in(0, 9);
            case 1: return "down " + in(0, 12);
            case 2: return "away " + in(0, 3);
            case 3: return "fee " + in(0, 5);
            case 4:
            case 5: return "more " + in(0, 15) + " " + expression(0);
            default: return "cost " + in(0, 9) + " " + expression(0);
        }
    }

    private void shop() {
        StringBuilder text = new StringBuilder(clause());
        for (int more = lot.nextInt(lot.nextInt(20) == 0 ? 12 : 6); more > 0; more--) {
            text.append(';').append(clause());
        }
        if (lot.nextInt(3) == 0) {
            spoil(text);
        }
        for (int i = 0; i < text.length(); i++) {
            due("feed", x.feed(text.charAt(i)), m.feed(text.charAt(i)));
        }
        due("shop of " + text, x.shop(), m.shop());
    }

    private void spoil(StringBuilder text) {
        int at = lot.nextInt(text.length());
        char sign = "mcudaf 019bkplrf<=>!|&();".charAt(lot.nextInt(25));
        switch (lot.nextInt(4)) {
            case 0: text.setLength(at); break;
            case 1: text.deleteCharAt(at); break;
            case 2: text.insert(at, sign); break;
            default: text.setCharAt(at, sign); break;
        }
    }

    private void change() {
        int b = some(0, 5);
        int n;
        int k;
        switch (lot.nextInt(14)) {
            case 0:
            case 1:
                n = some(0, 9);
                k = some(0, 25);
                int kind = some(0, 6);
                due("buyer(" + kind + ", " + n + ", " + k + ")", x.buyer(kind, n, k), m.buyer(kind, n, k));
                break;
            case 2:
                n = some(-1, 5);
                due("friend(" + b + ", " + n + ")", x.friend(b, n), m.friend(b, n));
                break;
            case 3:
                n = some(0, 2);
                k = some(0, 3);
                due("row(" + b + ", " + n + ", " + k + ")", x.row(b, n, k), m.row(b, n, k));
                break;
            case 4:
            case 5:
            case 6:
                due("back(" + b + ")", x.back(b), m.back(b));
                break;
            case 7:
                n = some(0, 30);
                due("set(0, " + n + ")", x.set(0, n), m.set(0, n));
                break;
            case 8:
                n = some(0, 1);
                k = some(0, 9);
                due("set(" + n + ", " + k + ")", x.set(n, k), m.set(n, k));
                break;
            case 9:
                shop();
                break;
            case 10:
                n = some(0, 10);
                due("slips(" + n + ")", x.slips(n), m.slips(n));
                break;
            case 11:
                n = some(-1, 3);
                due("film(" + n + ")", x.film(n), m.film(n));
                break;
            case 12:
                if (lot.nextInt(3) == 0) due("image", x.image(), m.image());
                else due("undo", x.undo(), m.undo());
                break;
            default:
                due("go", x.go(), m.go());
                break;
        }
    }

    private void tapes() {
        int t = some(0, 5);
        int i = some(0, 7);
        int o = some(0, 5);
        int j = some(0, 7);
        int n = some(0, 6);
        long v = lot.nextBoolean() ? in(-9, 9) : lot.nextLong();
        switch (lot.nextInt(5)) {
            case 0: due("tape(" + t + ", " + n + ", " + j + ")", x.tape(t, n, j), m.tape(t, n, j)); break;
            case 1: due("item(" + t + ", " + i + ", " + v + ")", x.item(t, i, v), m.item(t, i, v)); break;
            case 2: due("read(" + t + ", " + i + ")", x.read(t, i), m.read(t, i)); break;
            case 3: due("judge(" + t + ", " + i + ")", x.judge(t, i), m.judge(t, i)); break;
            default:
                due("shift(" + t + ", " + i + ", " + o + ", " + j + ", " + n + ")",
                    x.shift(t, i, o, j, n), m.shift(t, i, o, j, n));
                break;
        }
    }

    /** Writes down what RUN tells, so that JUDGED has something to find right. */
    private void answers() {
        due("tape of answers", x.tape(0, 2, 6), m.tape(0, 2, 6));
        for (int b = 0; b < x.count(0); b++) {
            int tells = lot.nextInt(8) == 0 ? 99 : m.run(b);
            due("answer", x.item(0, b, tells), m.item(0, b, tells));
        }
        due("judge(0, 0)", x.judge(0, 0), m.judge(0, 0));
    }

    private void ask() {
        int b = some(0, 5);
        int n = some(0, 1);
        int k;
        switch (lot.nextInt(22)) {
            case 0: k = some(0, 8); due("of(" + b + ", " + k + ")", x.of(b, k), m.of(b, k)); break;
            case 1: k = in(6, 7); due("of(" + b + ", " + k + ")", x.of(b, k), m.of(b, k)); break;
            case 2: due("gained(" + b + ")", x.gained(b), m.gained(b)); break;
            case 3: k = some(0, 9); due("told(" + k + ")", x.told(k), m.told(k)); break;
            case 4: due("would(" + b + ")", x.would(b), m.would(b)); break;
            case 5: due("run(" + b + ")", x.run(b), m.run(b)); break;
            case 6: k = some(10, 13); due("run(" + k + ")", x.run(k), m.run(k)); break;
            case 7: due("first(" + n + ")", x.first(n), m.first(n)); break;
            case 8: k = some(-1, 4); due("order(" + n + ", " + k + ")", x.order(n, k), m.order(n, k)); break;
            case 9: due("letBy(" + n + ")", x.letBy(n), m.letBy(n)); break;
            case 10: due("lot(" + n + ")", x.lot(n), m.lot(n)); break;
            case 11: due("fee", x.fee(), m.fee()); break;
            case 12: due("onePrice(" + n + ")", x.onePrice(n), m.onePrice(n)); break;
            case 13: due("aunt(" + b + ")", x.aunt(b), m.aunt(b)); break;
            case 14:
            case 15: due("sure(" + b + ", " + n + ")", x.sure(b, n), m.sure(b, n)); break;
            case 16: due("off", x.off(), m.off()); break;
            case 17: k = lot.nextInt(); int act = some(0, 2); due("act", x.act(b, act, k), m.act(b, act, k)); break;
            case 18: k = some(0, 12); due("trace(" + k + ")", x.trace(k), m.trace(k)); break;
            case 19: k = some(0, 6); due("taken(" + b + ", " + k + ")", x.taken(b, k), m.taken(b, k)); break;
            case 20: k = some(0, 4); due("count(" + k + ")", x.count(k), m.count(k)); break;
            default: tapes(); break;
        }
    }

    private int mixed() {
        while (calls < CALLS) {
            switch (lot.nextInt(40)) {
                case 0: answers(); break;
                case 1: tapes(); break;
                default:
                    if (lot.nextInt(3) == 0) change();
                    else ask();
                    break;
            }
        }
        return wrong;
    }

    public static void main(String[] args) {
        int failed = 0;
        for (int run = 0; run < RUNS; run++) {
            failed += new ModelTest(run).mixed() == 0 ? 0 : 1;
        }
        System.out.println((RUNS - failed) + " passed, " + failed + " failed");
        if (failed != 0) {
            System.exit(1);
        }
    }
}
