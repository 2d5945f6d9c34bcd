import java.math.BigInteger;
import java.util.ArrayList;
import java.util.Collections;
import java.util.List;
import java.util.TreeSet;

/** The document once more, of another build: worlds that are copied whole, texts that are never translated. */
final class Model {
    static final long NO = Long.MIN_VALUE;

    static final class Person {
        int kind, v, worth, aways, gained, friend = -1;
        int[] tells = new int[3];

        Person copy() {
            Person p = new Person();
            p.kind = kind;
            p.v = v;
            p.worth = worth;
            p.aways = aways;
            p.gained = gained;
            p.friend = friend;
            p.tells = tells.clone();
            return p;
        }
    }

    /** What is in THE IMAGE. */
    static final class World {
        List<Person> people = new ArrayList<>();
        List<Integer> line = new ArrayList<>();
        List<Integer> film = new ArrayList<>();
        int price = 1, loaves = 5, till, turns, slips, feeInstead = -1, loafBits, refusals;
        String shop = "";

        World copy() {
            World w = new World();
            for (Person p : people) {
                w.people.add(p.copy());
            }
            w.line.addAll(line);
            w.film.addAll(film);
            w.price = price;
            w.loaves = loaves;
            w.till = till;
            w.turns = turns;
            w.slips = slips;
            w.feeInstead = feeInstead;
            w.shop = shop;
            return w;
        }

        String[] clauses() {
            return shop.isEmpty() ? new String[0] : shop.split(";");
        }

        int lastOf(String word, int without) {
            int n = without;
            for (String c : clauses()) {
                if (c.startsWith(word + " ")) {
                    n = Integer.parseInt(c.substring(word.length() + 1));
                }
            }
            return n;
        }

        int away() {
            return Math.min(9, lastOf("away", 1));
        }

        int fee() {
            return feeInstead >= 0 ? feeInstead : lastOf("fee", 0);
        }

        int sum(String word, int b) {
            int sum = 0;
            for (String c : clauses()) {
                String[] parts = c.split(" ");
                if (parts[0].equals(word) && holds(parts[2], b)) {
                    sum += Integer.parseInt(parts[1]);
                }
            }
            return sum;
        }

        boolean holds(String e, int b) {
            int cut = outside(e, '|');
            if (cut >= 0) {
                return holds(e.substring(0, cut), b) || holds(e.substring(cut + 1), b);
            }
            cut = outside(e, '&');
            if (cut >= 0) {
                return holds(e.substring(0, cut), b) && holds(e.substring(cut + 1), b);
            }
            if (e.startsWith("!")) {
                return !holds(e.substring(1), b);
            }
            if (e.startsWith("(")) {
                return holds(e.substring(1, e.length() - 1), b);
            }
            Person p = people.get(b);
            int is;
            switch (e.charAt(0)) {
                case 'b': is = b; break;
                case 'k': is = p.kind; break;
                case 'p': is = price; break;
                case 'l': is = loaves; break;
                case 'r': is = line.size(); break;
                case 'a': is = p.aways; break;
                default: is = line.contains(p.friend) ? 1 : 0; break;
            }
            int n = Integer.parseInt(e.substring(2));
            return e.charAt(1) == '<' ? is < n : e.charAt(1) == '=' ? is == n : is > n;
        }

        static int outside(String e, char sign) {
            int open = 0;
            for (int i = 0; i < e.length(); i++) {
                if (e.charAt(i) == '(') {
                    open++;
                } else if (e.charAt(i) == ')') {
                    open--;
                } else if (e.charAt(i) == sign && open == 0) {
                    return i;
                }
            }
            return -1;
        }

        int value(int b) {
            return people.get(b).worth + sum("more", b);
        }

        int decide(int b, int asKind) {
            Person p = people.get(b);
            int gain = value(b) + sum("cost", b) + fee() - price;
            boolean may = p.aways < away();
            if (asKind == 0) {
                return gain >= 0 ? 1 : 2;
            }
            if (asKind == 1) {
                return gain >= p.v ? 1 : 2;
            }
            if (asKind == 2) {
                return value(b) < price && may ? 3 : decide(b, 0);
            }
            if (asKind == 3) {
                return price > p.v && line.contains(p.friend) ? 2 : decide(b, 0);
            }
            if (asKind == 4) {
                return loaves <= p.v ? 1 : decide(b, 1);
            }
            if (asKind == 5) {
                int others = 0;
                for (int o : line) {
                    others += o == b ? 0 : 1;
                }
                return others >= p.v && may ? 3 : decide(b, 2);
            }
            int told = p.tells[price % 3];
            return told == 0 || told == 3 && !may ? decide(b, 3) : told;
        }

        int decide(int b) {
            return decide(b, people.get(b).kind);
        }

        boolean comes() {
            return !line.isEmpty() && loaves > 0;
        }

        World after(int act) {
            World w = copy();
            w.loafBits = loafBits;
            w.refusals = refusals;
            int b = w.line.remove(0);
            Person p = w.people.get(b);
            if (act == 1) {
                w.till += price;
                w.loaves--;
                p.gained += value(b) - price;
                w.price = Math.min(999, price + lastOf("up", 1));
                w.loafBits |= 1 << b;
            } else if (act == 2) {
                w.till += fee();
                p.gained -= sum("cost", b) + fee();
                int down = lastOf("down", 1);
                w.price = down == 0 ? price / 2 : down;
                w.refusals++;
            } else {
                w.line.add(b);
                p.aways++;
            }
            w.turns++;
            return w;
        }

        World end() {
            World w = this;
            while (w.comes()) {
                w = w.after(w.decide(w.line.get(0)));
            }
            return w;
        }

        int allGained() {
            int sum = 0;
            for (Person p : people) {
                sum += p.gained;
            }
            return sum;
        }
    }

    /** Whether any SHOP begins with a text, told by going all ways at once. */
    static final class Grammar {
        private final String s;
        private boolean ranOut;

        Grammar(String s) {
            this.s = s;
        }

        static boolean whole(String s) {
            return new Grammar(s).shops().contains(s.length());
        }

        static boolean begun(String s) {
            Grammar g = new Grammar(s);
            return g.shops().contains(s.length()) || g.ranOut;
        }

        static int fault(String s) {
            for (int i = 0; i < s.length(); i++) {
                if (!begun(s.substring(0, i + 1))) {
                    return i;
                }
            }
            return whole(s) ? -1 : s.length();
        }

        private TreeSet<Integer> sign(TreeSet<Integer> from, String any) {
            TreeSet<Integer> to = new TreeSet<>();
            for (int at : from) {
                if (at >= s.length()) {
                    ranOut = true;
                } else if (any.indexOf(s.charAt(at)) >= 0) {
                    to.add(at + 1);
                }
            }
            return to;
        }

        private TreeSet<Integer> word(TreeSet<Integer> from, String word) {
            TreeSet<Integer> at = from;
            for (int i = 0; i < word.length(); i++) {
                at = sign(at, word.substring(i, i + 1));
            }
            return at;
        }

        private TreeSet<Integer> number(TreeSet<Integer> from) {
            TreeSet<Integer> to = sign(from, "0123456789");
            to.addAll(sign(to, "0123456789"));
            return to;
        }

        private TreeSet<Integer> many(TreeSet<Integer> from, int depth, boolean or) {
            TreeSet<Integer> all = new TreeSet<>();
            TreeSet<Integer> newest = or ? many(from, depth, false) : factor(from, depth);
            while (!newest.isEmpty() && all.addAll(newest)) {
                TreeSet<Integer> behind = sign(newest, or ? "|" : "&");
                newest = or ? many(behind, depth, false) : factor(behind, depth);
            }
            return all;
        }

        private TreeSet<Integer> factor(TreeSet<Integer> from, int depth) {
            TreeSet<Integer> to = new TreeSet<>();
            if (from.isEmpty()) {
                return to;
            }
            to.addAll(number(sign(sign(from, "bkplraf"), "<=>")));
            if (depth < 4) {
                to.addAll(factor(sign(from, "!"), depth + 1));
                TreeSet<Integer> open = sign(from, "(");
                if (!open.isEmpty()) {
                    to.addAll(sign(many(open, depth + 1, true), ")"));
                }
            }
            return to;
        }

        private TreeSet<Integer> clause(TreeSet<Integer> from) {
            TreeSet<Integer> to = new TreeSet<>();
            for (String word : new String[] {"up ", "down ", "away ", "fee "}) {
                to.addAll(number(word(from, word)));
            }
            for (String word : new String[] {"more ", "cost "}) {
                to.addAll(many(sign(number(word(from, word)), " "), 0, true));
            }
            return to;
        }

        private TreeSet<Integer> shops() {
            TreeSet<Integer> ends = new TreeSet<>();
            TreeSet<Integer> at = new TreeSet<>();
            at.add(0);
            for (int n = 1; n <= 10; n++) {
                TreeSet<Integer> behind = clause(at);
                ends.addAll(behind);
                if (n < 10) {
                    at = sign(behind, ";");
                }
            }
            return ends;
        }
    }

    private World w = new World();
    private World image;
    private String text = "";
    private int shops;
    private final List<Integer> ran = new ArrayList<>();
    private final int[] sorts = {-1, -1, -1, -1, -1, -1};
    private final long[][] tapes = new long[6][];

    private boolean has(int b) {
        return b >= 0 && b < w.people.size();
    }

    int buyer(int kind, int v, int worth) {
        if (kind < 0 || kind > 6) return -1;
        if (v < 0 || v > 9 || worth < 0 || worth > 99) return -2;
        if (w.people.size() == 6) return -4;
        Person p = new Person();
        p.kind = kind;
        p.v = v;
        p.worth = worth;
        w.people.add(p);
        w.line.add(w.people.size() - 1);
        return w.people.size() - 1;
    }

    private static int five(int n) {
        return n < 0 ? -5 : n;
    }

    int of(int b, int what) {
        if (!has(b) || what < 0 || what > 8) return -10001;
        Person p = w.people.get(b);
        int[] all = {p.kind, p.v, p.worth, five(p.friend), p.aways, five(w.line.indexOf(b)), w.value(b), w.sum("cost", b),
            p.kind == 6 ? Integer.parseInt("" + p.tells[0] + p.tells[1] + p.tells[2]) : -5};
        return all[what];
    }

    int gained(int b) {
        return has(b) ? w.people.get(b).gained : -100001;
    }

    int friend(int b, int other) {
        if (!has(b) || other != -1 && !has(other)) return -1;
        if (b == other) return -2;
        int was = w.people.get(b).friend;
        w.people.get(b).friend = other;
        return five(was);
    }

    int row(int b, int part, int n) {
        if (!has(b) || part < 0 || part > 2) return -1;
        if (n < 0 || n > 3) return -2;
        if (w.people.get(b).kind != 6) return -3;
        int was = w.people.get(b).tells[part];
        w.people.get(b).tells[part] = n;
        return was;
    }

    int back(int b) {
        if (!has(b)) return -1;
        if (w.line.contains(b)) return -3;
        w.line.add(b);
        return w.line.size() - 1;
    }

    int set(int what, int n) {
        if (what < 0 || what > 1) return -1;
        if (n < 0 || n > (what == 0 ? 999 : 9)) return -2;
        int was = what == 0 ? w.price : w.loaves;
        if (what == 0) w.price = n;
        else w.loaves = n;
        return was;
    }

    int feed(int sign) {
        if (sign < 0 || sign > 127) return -2;
        if (text.length() == 100) return -4;
        text += (char) sign;
        return text.length();
    }

    int shop() {
        if (shops == 6) return -4;
        String read = text;
        text = "";
        int fault = Grammar.fault(read);
        if (fault >= 0) return -10 - fault;
        w.shop = read;
        return shops++;
    }

    int told(int what) {
        if (what < 0 || what > 9) return -1;
        int[] all = {w.lastOf("up", 1), w.lastOf("down", 1), w.away(), w.fee(), w.price, w.loaves, w.till, w.turns,
            w.line.size(), w.line.isEmpty() ? -5 : w.line.get(0)};
        return all[what];
    }

    int would(int b) {
        if (!has(b)) return -1;
        World as = w.copy();
        as.line.remove(Integer.valueOf(b));
        as.line.add(0, b);
        return as.decide(b);
    }

    int go() {
        if (!w.comes()) return 0;
        int act = w.decide(w.line.get(0));
        w = w.after(act);
        w.loafBits = 0;
        return act;
    }

    int run(int what) {
        World end = w.copy().end();
        if (has(what)) return end.people.get(what).gained;
        switch (what) {
            case 10: return end.till;
            case 11: return end.price;
            case 12: return end.turns;
            case 13: return end.loafBits;
            default: return -100001;
        }
    }

    int first(int what) {
        if (what < 0 || what > 1) return -1;
        if (!w.comes()) return -5;
        int head = w.line.get(0);
        int best = -5;
        long most = Long.MIN_VALUE;
        for (int act = 1; act <= (w.people.get(head).aways < w.away() ? 3 : 2); act++) {
            World end = w.after(act).end();
            long is = what == 0 ? end.people.get(head).gained : end.till + end.allGained();
            if (is > most) {
                most = is;
                best = act;
            }
        }
        return best;
    }

    private static void rows(List<Integer> rest, List<Integer> begun, List<List<Integer>> all) {
        if (rest.isEmpty()) {
            all.add(new ArrayList<>(begun));
        }
        for (Integer next : rest) {
            List<Integer> less = new ArrayList<>(rest);
            less.remove(next);
            begun.add(next);
            rows(less, begun, all);
            begun.remove(begun.size() - 1);
        }
    }

    private List<List<Integer>> rows() {
        List<Integer> sorted = new ArrayList<>(w.line);
        Collections.sort(sorted);
        List<List<Integer>> all = new ArrayList<>();
        rows(sorted, new ArrayList<>(), all);
        return all;
    }

    private World by(List<Integer> line) {
        World as = w.copy();
        as.line = new ArrayList<>(line);
        return as.end();
    }

    int order(int what, int k) {
        if (what < 0 || what > 1 || k < -1 || k >= w.line.size()) return -100001;
        if (w.line.size() > 5) return -9;
        int most = Integer.MIN_VALUE;
        List<Integer> best = null;
        for (List<Integer> row : rows()) {
            World end = by(row);
            int is = what == 0 ? end.till : end.allGained();
            if (is > most) {
                most = is;
                best = row;
            }
        }
        return k == -1 ? most : best.get(k);
    }

    int letBy(int what) {
        if (what < 0 || what > 1) return -1;
        World as = w.copy().end();
        List<Integer> places = new ArrayList<>();
        for (int i = 0; i + 1 < w.line.size(); i++) {
            List<Integer> line = new ArrayList<>(w.line);
            Collections.swap(line, i, i + 1);
            World then = by(line);
            int a = w.line.get(i);
            int b = w.line.get(i + 1);
            int da = then.people.get(a).gained - as.people.get(a).gained;
            int db = then.people.get(b).gained - as.people.get(b).gained;
            if (Math.min(da, db) >= 0 && Math.max(da, db) > 0) places.add(i);
        }
        return what == 0 ? places.size() : places.isEmpty() ? -5 : places.get(0);
    }

    private static long fraction(BigInteger above, BigInteger below, int part) {
        BigInteger g = above.gcd(below);
        return (part == 0 ? above : below).divide(g).longValueExact();
    }

    long lot(int part) {
        if (part < 0 || part > 1 || w.line.size() > 5) return NO;
        long sum = 0;
        List<List<Integer>> all = rows();
        for (List<Integer> row : all) {
            sum += by(row).till;
        }
        return fraction(BigInteger.valueOf(sum), BigInteger.valueOf(all.size()), part);
    }

    int fee() {
        for (int fee = 0; fee <= 20; fee++) {
            World as = w.copy();
            as.feeInstead = fee;
            if (as.end().refusals == 0) return fee;
        }
        return -5;
    }

    int onePrice(int what) {
        if (what < 0 || what > 1) return -1;
        int best = -1;
        int most = -1;
        for (int price = 0; price <= 99; price++) {
            int got = 0;
            int left = w.loaves;
            for (int b : w.line) {
                if (w.value(b) >= price && left > 0) {
                    left--;
                    got += price;
                }
            }
            if (got > most) {
                most = got;
                best = price;
            }
        }
        return what == 0 ? best : most;
    }

    int aunt(int b) {
        if (!has(b)) return -100001;
        if (!w.line.contains(b)) return -100003;
        World as = w.copy().end();
        List<Integer> others = new ArrayList<>(w.line);
        others.remove(Integer.valueOf(b));
        World without = by(others);
        int sum = 0;
        for (int o : others) {
            sum += as.people.get(o).gained - without.people.get(o).gained;
        }
        return sum;
    }

    int slips(int n) {
        if (n < 0 || n > 10) return -2;
        int was = w.slips;
        w.slips = n;
        return was;
    }

    /** How likely, of ten to the 12th; null, if more than 12 TURNS may come. */
    private static BigInteger sure(World w, int b, int turns, BigInteger weight) {
        if (!w.comes()) {
            return (w.loafBits >> b & 1) == 1 ? weight : BigInteger.ZERO;
        }
        if (turns == 12) return null;
        int act = w.decide(w.line.get(0));
        if (act != 1) return sure(w.after(act), b, turns + 1, weight);
        BigInteger sum = BigInteger.ZERO;
        for (int said = 1; said <= 2; said++) {
            int odds = said == 1 ? 10 - w.slips : w.slips;
            if (odds > 0) {
                BigInteger part = weight.multiply(BigInteger.valueOf(odds)).divide(BigInteger.TEN);
                BigInteger likely = sure(w.after(said), b, turns + 1, part);
                if (likely == null) return null;
                sum = sum.add(likely);
            }
        }
        return sum;
    }

    long sure(int b, int part) {
        if (!has(b) || part < 0 || part > 1) return NO;
        BigInteger all = BigInteger.TEN.pow(12);
        BigInteger likely = sure(w.copy(), b, 0, all);
        return likely == null ? NO : fraction(likely, all, part);
    }

    int film(int what) {
        if (what < -1 || what == 0 || what > 3) return -1;
        if (what == -1) {
            w.film.clear();
            return 0;
        }
        if (w.film.size() == 12) return -4;
        w.film.add(what);
        return w.film.size();
    }

    int off() {
        World as = w;
        for (int t = 0; t < w.film.size(); t++) {
            int act = as.comes() ? as.decide(as.line.get(0)) : 0;
            if (act != w.film.get(t)) return t;
            as = as.after(act);
        }
        return -5;
    }

    private static boolean tape(int t) {
        return t >= 0 && t < 6;
    }

    int judge(int t, int i) {
        if (!tape(t)) return -1;
        if (sorts[t] != -1 && sorts[t] != 2) return -12;
        if (sorts[t] == -1 || i < 0) return 100;
        for (int b = 0; b < w.people.size(); b++) {
            long at = (long) i + b;
            if (at >= tapes[t].length) return 100 + b;
            if (tapes[t][(int) at] != run(b)) return b;
        }
        return -5;
    }

    int image() {
        image = w.copy();
        return w.people.size();
    }

    int undo() {
        if (image == null) return -3;
        w = image.copy();
        return w.people.size();
    }

    private static int above(int kind) {
        return kind == 0 ? -1 : kind < 4 ? 0 : kind - 3;
    }

    /** The body of a KIND, or of the next above that has one; act 0 bids, 1 waits, 2 tells. */
    private int body(int b, int kind, int act, int x) {
        Person p = w.people.get(b);
        int number = 10 + 10 * kind;
        int up = above(kind);
        if (kind == 0) {
            ran.add(number + act);
            return act == 0 ? x + b : act == 1 ? body(b, p.kind, 0, x) - p.v : body(b, p.kind, 1, x) * 2;
        }
        if (kind == 1 && act == 1) {
            ran.add(number);
            return body(b, up, 1, x) ^ 6;
        }
        if (kind == 2 && act == 0) {
            ran.add(number);
            return body(b, up, 0, x * 3);
        }
        if (kind == 3 && act == 2) {
            ran.add(number);
            int told = body(b, up, 2, x);
            return told + body(b, p.kind, 1, 1);
        }
        if (kind == 4 && act == 0) {
            ran.add(50);
            return -body(b, up, 0, x);
        }
        if (kind == 4 && act == 1) {
            ran.add(51);
            return body(b, up, 1, x + 1);
        }
        if (kind == 5 && act == 2) {
            ran.add(60);
            return body(b, up, 2, x - b);
        }
        if (kind == 6 && act == 1) {
            ran.add(70);
            int waited = body(b, up, 1, x);
            return waited + body(b, up, 0, 2);
        }
        if (kind == 6 && act == 0) {
            ran.add(71);
            return body(b, up, 0, x) ^ p.v;
        }
        return body(b, up, act, x);
    }

    int act(int b, int act, int x) {
        ran.clear();
        return has(b) && act >= 0 && act <= 2 ? body(b, w.people.get(b).kind, act, x) : 0;
    }

    int trace(int i) {
        return i >= 0 && i < ran.size() && i < 20 ? ran.get(i) : -1;
    }

    int taken(int b, int k) {
        if (k < 0 || k > 6) return -2;
        if (!has(b)) return -11;
        for (int kind = w.people.get(b).kind; kind >= 0; kind = above(kind)) {
            if (kind == k) return w.people.get(b).kind;
        }
        return -12;
    }

    int count(int what) {
        if (what < 0 || what > 4) return -2;
        return new int[] {w.people.size(), shops, w.film.size(), text.length(), ran.size()}[what];
    }

    int tape(int t, int sort, int n) {
        if (!tape(t)) return -1;
        if (sort == -1) {
            sorts[t] = -1;
            tapes[t] = null;
            return 1;
        }
        if (sort < 0 || sort > 4 || n > 60) return -2;
        if (n < 0) return -14;
        sorts[t] = sort;
        tapes[t] = new long[n];
        return 1;
    }

    int item(int t, int i, long v) {
        if (!tape(t)) return -1;
        if (sorts[t] == -1) return -11;
        if (i < 0 || i >= tapes[t].length) return -13;
        int[] bits = {8, 16, 32, 64};
        if (sorts[t] == 4) tapes[t][i] = v == 0 ? 0 : 1;
        else tapes[t][i] = v << 64 - bits[sorts[t]] >> 64 - bits[sorts[t]];
        return 1;
    }

    long read(int t, int i) {
        return tape(t) && sorts[t] != -1 && i >= 0 && i < tapes[t].length ? tapes[t][i] : NO;
    }

    int shift(int t, int i, int other, int j, int n) {
        if (!tape(t) || !tape(other)) return -1;
        if (sorts[t] == -1 || sorts[other] == -1) return -11;
        if (sorts[t] != sorts[other]) return -12;
        if (n < 0 || i < 0 || j < 0 || (long) i + n > tapes[t].length || (long) j + n > tapes[other].length) return -13;
        long[] were = tapes[t].clone();
        for (int k = 0; k < n; k++) {
            tapes[other][j + k] = were[i + k];
        }
        return n;
    }
}
