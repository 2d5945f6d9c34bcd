/**
 * A row of buyers before a baker whose price climbs by each yes and falls by each no.
 * What each call answers is told, promise by promise, in ../shared/DOC.md.
 */
public final class PennyMore {

    public static final int NONE = -1, BAD = -2, STATE = -3, FULL = -4;
    public static final long NO = Long.MIN_VALUE;

    private static final int ABSENT = -5, ROW_TOO_LONG = -9, FAULT_BASE = -10;
    private static final int NOTHING = -11, CAST = -12, PLACE = -13, SIZE = -14;
    private static final int NO_FACT = -10001, NO_SUM = -100001, NOT_STANDING = -100003;
    private static final int JUDGED_SHORT = 100;

    private static final int SAYS_YES = 1, SAYS_NO = 2, GOES_AWAY = 3;
    private static final int BUYERS = 6, SHOPS = 6, TAPES = 6;
    private static final int MOST_PRICE = 999, MOST_LOAVES = 9, MOST_V = 9, MOST_WORTH = 99;
    private static final int MOST_SIGN = 127, MOST_FEE = 20, MOST_ASKED_PRICE = 99;
    private static final int FILM_LENGTH = 12, TRACE_KEPT = 20;
    private static final int MIXED_AT_MOST = 5, SLIP_ODDS = 10, SLIP_TURNS = 12;

    /** Each of 6 goes away 9 times at most and then leaves: 60 TURNS; far more than that never come. */
    private static final int TURNS_BOUND = 1000;
    /** Five stand in 120 rows at most. */
    private static final int LINEUPS_BOUND = 120;
    /** No two longs take more steps to their common divisor. */
    private static final int EUCLID_BOUND = 100;

    private final Day now;
    private final Day image;
    /** Days that questions are tried out on. */
    private final Day trial;
    private final Day base;
    private final Shop[] shops;
    private final Reader reader;
    private final Tape[] tapes;
    /** How many bodies ran in the latest act(), and behind that the numbers of the first of them. */
    private final int[] ran;
    private final int[] lineup;
    private final int[] bestLineup;
    private final int[] values;
    private int shopsRead;
    private boolean imageTaken;

    public PennyMore() {
        Shop bare = new Shop();
        now = new Day(bare);
        image = new Day(bare);
        trial = new Day(bare);
        base = new Day(bare);
        shops = new Shop[SHOPS];
        for (int s = 0; s < SHOPS; s++) {
            shops[s] = new Shop();
        }
        reader = new Reader();
        tapes = new Tape[TAPES];
        for (int t = 0; t < TAPES; t++) {
            tapes[t] = new Tape();
        }
        ran = new int[1 + TRACE_KEPT];
        lineup = new int[BUYERS];
        bestLineup = new int[BUYERS];
        values = new int[BUYERS];
    }

    // ---- buyers, shops

    public int buyer(int kind, int v, int worth) {
        if (kind < Buyer.BUYER || kind > Buyer.TOLD) {
            return NONE;
        }
        if (v < 0 || v > MOST_V || worth < 0 || worth > MOST_WORTH) {
            return BAD;
        }
        if (now.known >= BUYERS) {
            return FULL;
        }
        int number = now.known;
        now.welcome(newBuyer(kind, number, v, worth));
        return number;
    }

    public int of(int buyer, int what) {
        if (!now.knows(buyer)) {
            return NO_FACT;
        }
        Buyer asked = now.buyers[buyer];
        switch (what) {
            case 0:
                return asked.kind;
            case 1:
                return asked.v;
            case 2:
                return asked.worth;
            case 3:
                return orAbsent(now.friends[buyer]);
            case 4:
                return now.aways[buyer];
            case 5:
                return orAbsent(now.placeOf(buyer));
            case 6:
                now.weigh(buyer);
                return now.value;
            case 7:
                now.weigh(buyer);
                return now.cost;
            case 8:
                return asked.kind == Buyer.TOLD ? rowDigits(buyer) : ABSENT;
            default:
                return NO_FACT;
        }
    }

    public int gained(int buyer) {
        return now.knows(buyer) ? now.gained[buyer] : NO_SUM;
    }

    public int friend(int buyer, int other) {
        boolean nobody = other == -1;
        if (!now.knows(buyer) || (!nobody && !now.knows(other))) {
            return NONE;
        }
        if (other == buyer) {
            return BAD;
        }
        int before = orAbsent(now.friends[buyer]);
        now.friends[buyer] = other;
        return before;
    }

    public int row(int buyer, int part, int n) {
        if (!now.knows(buyer) || part < 0 || part >= Day.PARTS) {
            return NONE;
        }
        if (n < 0 || n > GOES_AWAY) {
            return BAD;
        }
        if (now.buyers[buyer].kind != Buyer.TOLD) {
            return STATE;
        }
        int at = buyer * Day.PARTS + part;
        int before = now.tells[at];
        now.tells[at] = n;
        return before;
    }

    public int back(int buyer) {
        if (!now.knows(buyer)) {
            return NONE;
        }
        if (now.placeOf(buyer) >= 0) {
            return STATE;
        }
        now.stand(buyer);
        return now.placeOf(buyer);
    }

    public int set(int what, int n) {
        if (what != 0 && what != 1) {
            return NONE;
        }
        if (n < 0 || n > (what == 0 ? MOST_PRICE : MOST_LOAVES)) {
            return BAD;
        }
        int before;
        if (what == 0) {
            before = now.price;
            now.price = n;
        } else {
            before = now.loaves;
            now.loaves = n;
        }
        return before;
    }

    public int feed(int sign) {
        if (sign < 0 || sign > MOST_SIGN) {
            return BAD;
        }
        return reader.add(sign) ? reader.size : FULL;
    }

    public int shop() {
        if (shopsRead >= SHOPS) {
            return FULL;
        }
        Shop next = shops[shopsRead];
        int fault = reader.readInto(next);
        reader.empty();
        if (fault >= 0) {
            return FAULT_BASE - fault;
        }
        now.open(next);
        int number = shopsRead;
        shopsRead++;
        return number;
    }

    public int told(int what) {
        switch (what) {
            case 0:
                return now.shop.up;
            case 1:
                return now.shop.down;
            case 2:
                return now.shop.away;
            case 3:
                return now.shop.fee;
            case 4:
                return now.price;
            case 5:
                return now.loaves;
            case 6:
                return now.till;
            case 7:
                return now.turns;
            case 8:
                return now.standing;
            case 9:
                return orAbsent(now.head());
            default:
                return NONE;
        }
    }

    // ---- turns

    public int would(int buyer) {
        if (!now.knows(buyer)) {
            return NONE;
        }
        trial.copyOf(now);
        trial.putAhead(buyer);
        trial.weigh(buyer);
        return trial.buyers[buyer].does(trial);
    }

    public int go() {
        return now.turnComes() ? now.turn() : 0;
    }

    public int run(int what) {
        if (now.knows(what)) {
            runTrial();
            return trial.gained[what];
        }
        switch (what) {
            case 10:
                runTrial();
                return trial.till;
            case 11:
                runTrial();
                return trial.price;
            case 12:
                runTrial();
                return trial.turns;
            case 13:
                return whoGetsLoaves();
            default:
                return NO_SUM;
        }
    }

    public int first(int what) {
        if (what != 0 && what != 1) {
            return NONE;
        }
        if (!now.turnComes()) {
            return ABSENT;
        }
        int head = now.head();
        int best = 0;
        int most = 0;
        for (int act = SAYS_YES; act <= GOES_AWAY; act++) {
            if (act == GOES_AWAY && !now.mayGoAway(head)) {
                continue;
            }
            int gain = gainByFirst(head, act, what);
            if (best == 0 || gain > most) {
                best = act;
                most = gain;
            }
        }
        return best;
    }

    // ---- rows

    public int order(int what, int k) {
        if ((what != 0 && what != 1) || k < -1 || k >= now.standing) {
            return NO_SUM;
        }
        if (now.standing > MIXED_AT_MOST) {
            return ROW_TOO_LONG;
        }
        int most = findBestLineup(what);
        return k < 0 ? most : bestLineup[k];
    }

    public int letBy(int what) {
        if (what != 0 && what != 1) {
            return NONE;
        }
        base.copyOf(now);
        base.toEnd();
        int pairs = 0;
        int firstPlace = ABSENT;
        for (int place = 0; place + 1 < now.standing; place++) {
            if (bothLikeSwap(place)) {
                if (pairs == 0) {
                    firstPlace = place;
                }
                pairs++;
            }
        }
        return what == 0 ? pairs : firstPlace;
    }

    public long lot(int part) {
        if ((part != 0 && part != 1) || now.standing > MIXED_AT_MOST) {
            return NO;
        }
        long sum = 0;
        long rows = 0;
        startLineups();
        boolean more = true;
        for (int r = 0; r < LINEUPS_BOUND && more; r++) {
            standAsLineup();
            trial.toEnd();
            sum += trial.till;
            rows++;
            more = nextLineup();
        }
        return lowestTerms(sum, rows, part);
    }

    public int fee() {
        for (int fee = 0; fee <= MOST_FEE; fee++) {
            if (nobodyRefuses(fee)) {
                return fee;
            }
        }
        return ABSENT;
    }

    public int onePrice(int what) {
        if (what != 0 && what != 1) {
            return NONE;
        }
        for (int place = 0; place < now.standing; place++) {
            now.weigh(now.row[place]);
            values[place] = now.value;
        }
        int best = 0;
        int most = 0;
        for (int price = 0; price <= MOST_ASKED_PRICE; price++) {
            int takings = price * Math.min(now.loaves, takersAt(price));
            if (takings > most) {
                best = price;
                most = takings;
            }
        }
        return what == 0 ? best : most;
    }

    public int aunt(int buyer) {
        if (!now.knows(buyer)) {
            return NO_SUM;
        }
        int place = now.placeOf(buyer);
        if (place < 0) {
            return NOT_STANDING;
        }
        runTrial();
        base.copyOf(now);
        base.leave(place);
        base.toEnd();
        int lost = 0;
        for (int p = 0; p < now.standing; p++) {
            int other = now.row[p];
            if (other != buyer) {
                lost += trial.gained[other] - base.gained[other];
            }
        }
        return lost;
    }

    // ---- slips, films

    public int slips(int n) {
        if (n < 0 || n > SLIP_ODDS) {
            return BAD;
        }
        int before = now.slips;
        now.slips = n;
        return before;
    }

    public long sure(int buyer, int part) {
        if (!now.knows(buyer) || (part != 0 && part != 1)) {
            return NO;
        }
        // Each who stands says YES or slips once at most: bit n of a pattern tells whether the n-th YES slips.
        int patterns = 1 << now.standing;
        long likely = 0;
        long all = 0;
        for (int slipped = 0; slipped < patterns; slipped++) {
            long weight = weightOf(slipped);
            if (weight > 0) {
                int yes = whoSaysYes(slipped);
                if (yes < 0) {
                    return NO;
                }
                all += weight;
                if ((yes >> buyer & 1) == 1) {
                    likely += weight;
                }
            }
        }
        return lowestTerms(likely, all, part);
    }

    public int film(int what) {
        if (what != -1 && (what < SAYS_YES || what > GOES_AWAY)) {
            return NONE;
        }
        if (what == -1) {
            now.filmed = 0;
            return 0;
        }
        if (now.filmed >= FILM_LENGTH) {
            return FULL;
        }
        now.film[now.filmed] = what;
        now.filmed++;
        return now.filmed;
    }

    public int off() {
        trial.copyOf(now);
        for (int t = 0; t < now.filmed; t++) {
            if (!trial.turnComes() || trial.turn() != now.film[t]) {
                return t;
            }
        }
        return ABSENT;
    }

    // ---- judging, the image, acts, tapes

    public int judge(int tape, int i) {
        if (!isTape(tape)) {
            return NONE;
        }
        Tape answers = tapes[tape];
        if (answers.holdsNothing()) {
            return JUDGED_SHORT;
        }
        if (answers.sort != Tape.INTS) {
            return CAST;
        }
        if (i < 0) {
            return JUDGED_SHORT;
        }
        runTrial();
        for (int b = 0; b < now.known; b++) {
            if (i >= answers.size - b) {
                return JUDGED_SHORT + b;
            }
            if (answers.items[i + b] != trial.gained[b]) {
                return b;
            }
        }
        return ABSENT;
    }

    public int image() {
        image.copyOf(now);
        imageTaken = true;
        return now.known;
    }

    public int undo() {
        if (!imageTaken) {
            return STATE;
        }
        now.copyOf(image);
        return now.known;
    }

    public int act(int buyer, int act, int x) {
        ran[0] = 0;
        if (!now.knows(buyer)) {
            return 0;
        }
        switch (act) {
            case 0:
                return now.buyers[buyer].bids(x, ran);
            case 1:
                return now.buyers[buyer].waits(x, ran);
            case 2:
                return now.buyers[buyer].tells(x, ran);
            default:
                return 0;
        }
    }

    public int trace(int i) {
        return i >= 0 && i < Math.min(ran[0], TRACE_KEPT) ? ran[1 + i] : NONE;
    }

    public int taken(int buyer, int k) {
        if (k < Buyer.BUYER || k > Buyer.TOLD) {
            return BAD;
        }
        if (!now.knows(buyer)) {
            return NOTHING;
        }
        Buyer asked = now.buyers[buyer];
        return isOneOf(asked, k) ? asked.kind : CAST;
    }

    public int count(int what) {
        switch (what) {
            case 0:
                return now.known;
            case 1:
                return shopsRead;
            case 2:
                return now.filmed;
            case 3:
                return reader.size;
            case 4:
                return ran[0];
            default:
                return BAD;
        }
    }

    public int tape(int tape, int sort, int n) {
        if (!isTape(tape)) {
            return NONE;
        }
        if (sort == Tape.NO_SORT) {
            tapes[tape].become(Tape.NO_SORT, 0);
            return 1;
        }
        if (sort < Tape.BYTES || sort > Tape.BOOLEANS || n > Tape.MOST_ITEMS) {
            return BAD;
        }
        if (n < 0) {
            return SIZE;
        }
        tapes[tape].become(sort, n);
        return 1;
    }

    public int item(int tape, int i, long v) {
        if (!isTape(tape)) {
            return NONE;
        }
        Tape changed = tapes[tape];
        if (changed.holdsNothing()) {
            return NOTHING;
        }
        if (!changed.hasPlace(i)) {
            return PLACE;
        }
        changed.items[i] = changed.narrowed(v);
        return 1;
    }

    public long read(int tape, int i) {
        return isTape(tape) && tapes[tape].hasPlace(i) ? tapes[tape].items[i] : NO;
    }

    public int shift(int tape, int i, int other, int j, int n) {
        if (!isTape(tape) || !isTape(other)) {
            return NONE;
        }
        Tape from = tapes[tape];
        Tape to = tapes[other];
        if (from.holdsNothing() || to.holdsNothing()) {
            return NOTHING;
        }
        if (from.sort != to.sort) {
            return CAST;
        }
        if (!from.hasStretch(i, n) || !to.hasStretch(j, n)) {
            return PLACE;
        }
        System.arraycopy(from.items, i, to.items, j, n);
        return n;
    }

    // ---- what the calls share

    private static int orAbsent(int number) {
        return number < 0 ? ABSENT : number;
    }

    private static boolean isTape(int tape) {
        return tape >= 0 && tape < TAPES;
    }

    private int rowDigits(int buyer) {
        int at = buyer * Day.PARTS;
        return 100 * now.tells[at] + 10 * now.tells[at + 1] + now.tells[at + 2];
    }

    private static Buyer newBuyer(int kind, int number, int v, int worth) {
        switch (kind) {
            case Buyer.PLAIN:
                return new Plain(kind, number, v, worth);
            case Buyer.WAITING:
                return new Waiting(kind, number, v, worth);
            case Buyer.FALLING:
                return new Falling(kind, number, v, worth);
            case Buyer.SURE:
                return new Sure(kind, number, v, worth);
            case Buyer.LATE:
                return new Late(kind, number, v, worth);
            case Buyer.TOLD:
                return new Told(kind, number, v, worth);
            default:
                return new Buyer(kind, number, v, worth);
        }
    }

    private static boolean isOneOf(Buyer asked, int kind) {
        switch (kind) {
            case Buyer.BUYER:
                return true;
            case Buyer.PLAIN:
                return asked instanceof Plain;
            case Buyer.WAITING:
                return asked instanceof Waiting;
            case Buyer.FALLING:
                return asked instanceof Falling;
            case Buyer.SURE:
                return asked instanceof Sure;
            case Buyer.LATE:
                return asked instanceof Late;
            case Buyer.TOLD:
                return asked instanceof Told;
            default:
                return false;
        }
    }

    private void runTrial() {
        trial.copyOf(now);
        trial.toEnd();
    }

    private int whoGetsLoaves() {
        trial.copyOf(now);
        int bits = 0;
        for (int t = 0; t < TURNS_BOUND && trial.turnComes(); t++) {
            int head = trial.head();
            if (trial.turn() == SAYS_YES) {
                bits |= 1 << head;
            }
        }
        return bits;
    }

    private boolean nobodyRefuses(int fee) {
        trial.copyOf(now);
        trial.fee = fee;
        for (int t = 0; t < TURNS_BOUND && trial.turnComes(); t++) {
            if (trial.turn() == SAYS_NO) {
                return false;
            }
        }
        return true;
    }

    /** What comes of it by RUN, for the HEAD (0) or for all (1), if the HEAD does this first. */
    private int gainByFirst(int head, int act, int what) {
        trial.copyOf(now);
        trial.weigh(head);
        trial.carryOut(act);
        trial.toEnd();
        return what == 0 ? trial.gained[head] : trial.till + trial.gainedByAll();
    }

    private boolean bothLikeSwap(int place) {
        int ahead = now.row[place];
        int behind = now.row[place + 1];
        trial.copyOf(now);
        trial.row[place] = behind;
        trial.row[place + 1] = ahead;
        trial.toEnd();
        int aheadMore = trial.gained[ahead] - base.gained[ahead];
        int behindMore = trial.gained[behind] - base.gained[behind];
        return aheadMore >= 0 && behindMore >= 0 && (aheadMore > 0 || behindMore > 0);
    }

    private int takersAt(int price) {
        int takers = 0;
        for (int place = 0; place < now.standing; place++) {
            if (values[place] >= price) {
                takers++;
            }
        }
        return takers;
    }

    private int findBestLineup(int what) {
        int most = 0;
        startLineups();
        boolean more = true;
        for (int r = 0; r < LINEUPS_BOUND && more; r++) {
            standAsLineup();
            trial.toEnd();
            int sum = what == 0 ? trial.till : trial.gainedByAll();
            if (r == 0 || sum > most) {
                most = sum;
                System.arraycopy(lineup, 0, bestLineup, 0, BUYERS);
            }
            more = nextLineup();
        }
        return most;
    }

    /** The first of all rows of those who stand: by their numbers. */
    private void startLineups() {
        int size = 0;
        for (int b = 0; b < now.known; b++) {
            if (now.placeOf(b) >= 0) {
                lineup[size] = b;
                size++;
            }
        }
    }

    private void standAsLineup() {
        trial.copyOf(now);
        System.arraycopy(lineup, 0, trial.row, 0, now.standing);
    }

    /** Goes on to the next row by numbers; false behind the last one. */
    private boolean nextLineup() {
        int turned = now.standing - 2;
        while (turned >= 0 && lineup[turned] > lineup[turned + 1]) {
            turned--;
        }
        if (turned < 0) {
            return false;
        }
        int larger = now.standing - 1;
        while (larger > turned && lineup[larger] < lineup[turned]) {
            larger--;
        }
        swapInLineup(turned, larger);
        int left = turned + 1;
        int right = now.standing - 1;
        while (left < right) {
            swapInLineup(left, right);
            left++;
            right--;
        }
        return true;
    }

    private void swapInLineup(int i, int j) {
        int kept = lineup[i];
        lineup[i] = lineup[j];
        lineup[j] = kept;
    }

    private long weightOf(int slipped) {
        long weight = 1;
        for (int n = 0; n < now.standing; n++) {
            weight *= (slipped >> n & 1) == 1 ? now.slips : SLIP_ODDS - now.slips;
        }
        return weight;
    }

    /** Bits of those who say YES by the end of THE DAY, if the YES told by slipped are slips; -1: too many TURNS. */
    private int whoSaysYes(int slipped) {
        trial.copyOf(now);
        int said = 0;
        int bits = 0;
        for (int t = 0; t < SLIP_TURNS && trial.turnComes(); t++) {
            int head = trial.head();
            trial.weigh(head);
            int act = trial.buyers[head].does(trial);
            if (act == SAYS_YES) {
                if ((slipped >> said & 1) == 1) {
                    act = SAYS_NO;
                } else {
                    bits |= 1 << head;
                }
                said++;
            }
            trial.carryOut(act);
        }
        return trial.turnComes() ? -1 : bits;
    }

    private static long lowestTerms(long above, long below, int part) {
        long a = above;
        long b = below;
        for (int step = 0; step < EUCLID_BOUND && b > 0; step++) {
            long rest = a % b;
            a = b;
            b = rest;
        }
        if (a <= 0) {
            return NO;
        }
        return part == 0 ? above / a : below / a;
    }

    /** How all is, as far as THE DAY and THE IMAGE need it: made four times, and copied over and over. */
    private static final class Day {
        static final int PARTS = 3;

        final Buyer[] buyers = new Buyer[BUYERS];
        final int[] friends = new int[BUYERS];
        final int[] tells = new int[BUYERS * PARTS];
        final int[] aways = new int[BUYERS];
        final int[] gained = new int[BUYERS];
        final int[] row = new int[BUYERS];
        final int[] film = new int[FILM_LENGTH];
        /** What TESTS ask of the BUYER that was weighed last. */
        final int[] measures = new int[Shop.LETTERS];
        Shop shop;
        /** What NO costs here: the SHOP's, if FEE does not put another in its place. */
        int fee;
        int known;
        int standing;
        int price = 1;
        int loaves = 5;
        int till;
        int turns;
        int slips;
        int filmed;
        /** VALUE and COST for the BUYER that was weighed last. */
        int value;
        int cost;

        Day(Shop bare) {
            shop = bare;
            fee = bare.fee;
        }

        void copyOf(Day other) {
            for (int b = 0; b < BUYERS; b++) {
                buyers[b] = other.buyers[b];
            }
            System.arraycopy(other.friends, 0, friends, 0, BUYERS);
            System.arraycopy(other.tells, 0, tells, 0, BUYERS * PARTS);
            System.arraycopy(other.aways, 0, aways, 0, BUYERS);
            System.arraycopy(other.gained, 0, gained, 0, BUYERS);
            System.arraycopy(other.row, 0, row, 0, BUYERS);
            System.arraycopy(other.film, 0, film, 0, FILM_LENGTH);
            shop = other.shop;
            fee = other.fee;
            known = other.known;
            standing = other.standing;
            price = other.price;
            loaves = other.loaves;
            till = other.till;
            turns = other.turns;
            slips = other.slips;
            filmed = other.filmed;
        }

        boolean knows(int buyer) {
            return buyer >= 0 && buyer < known;
        }

        void welcome(Buyer newest) {
            if (known >= BUYERS) {
                return;
            }
            int number = known;
            buyers[number] = newest;
            friends[number] = -1;
            for (int part = 0; part < PARTS; part++) {
                tells[number * PARTS + part] = 0;
            }
            aways[number] = 0;
            gained[number] = 0;
            known++;
            stand(number);
        }

        void open(Shop newest) {
            shop = newest;
            fee = newest.fee;
        }

        int head() {
            return standing > 0 ? row[0] : -1;
        }

        int placeOf(int buyer) {
            for (int place = 0; place < standing; place++) {
                if (row[place] == buyer) {
                    return place;
                }
            }
            return -1;
        }

        void stand(int buyer) {
            if (standing < BUYERS) {
                row[standing] = buyer;
                standing++;
            }
        }

        void leave(int place) {
            if (place < 0 || place >= standing) {
                return;
            }
            standing--;
            for (int p = place; p < standing; p++) {
                row[p] = row[p + 1];
            }
        }

        void putAhead(int buyer) {
            leave(placeOf(buyer));
            if (standing >= BUYERS) {
                return;
            }
            for (int p = standing; p > 0; p--) {
                row[p] = row[p - 1];
            }
            row[0] = buyer;
            standing++;
        }

        boolean mayGoAway(int buyer) {
            return aways[buyer] < shop.away;
        }

        boolean friendStands(int buyer) {
            return placeOf(friends[buyer]) >= 0;
        }

        /** GAIN of a yes over a no for the BUYER that was weighed last. */
        int gainOfYes() {
            return value + cost + fee - price;
        }

        void weigh(int buyer) {
            measures[0] = buyer;
            measures[1] = buyers[buyer].kind;
            measures[2] = price;
            measures[3] = loaves;
            measures[4] = standing;
            measures[5] = aways[buyer];
            measures[6] = friendStands(buyer) ? 1 : 0;
            value = buyers[buyer].worth + shop.sumOf(Shop.MORE, measures);
            cost = shop.sumOf(Shop.COST, measures);
        }

        boolean turnComes() {
            return standing > 0 && loaves > 0;
        }

        /** What the HEAD does; only where a TURN comes. */
        int turn() {
            int head = row[0];
            weigh(head);
            int act = buyers[head].does(this);
            carryOut(act);
            return act;
        }

        /** The TURN of a HEAD that was weighed just now. */
        void carryOut(int act) {
            int head = row[0];
            leave(0);
            if (act == SAYS_YES) {
                till += price;
                loaves--;
                gained[head] += value - price;
                price = Math.min(MOST_PRICE, price + shop.up);
            } else if (act == SAYS_NO) {
                till += fee;
                gained[head] -= cost + fee;
                price = shop.down == 0 ? price / 2 : shop.down;
            } else {
                aways[head]++;
                stand(head);
            }
            turns++;
        }

        void toEnd() {
            for (int t = 0; t < TURNS_BOUND && turnComes(); t++) {
                turn();
            }
        }

        int gainedByAll() {
            int sum = 0;
            for (int b = 0; b < known; b++) {
                sum += gained[b];
            }
            return sum;
        }
    }

    /** A BUYER of KIND 0, and what the KINDS under it go back to. */
    private static class Buyer {
        static final int BUYER = 0, PLAIN = 1, WAITING = 2, FALLING = 3, SURE = 4, LATE = 5, TOLD = 6;

        final int kind;
        final int number;
        final int v;
        final int worth;

        Buyer(int kind, int number, int v, int worth) {
            this.kind = kind;
            this.number = number;
            this.v = v;
            this.worth = worth;
        }

        static void note(int[] ran, int body) {
            ran[0]++;
            if (ran[0] < ran.length) {
                ran[ran[0]] = body;
            }
        }

        int does(Day day) {
            return day.gainOfYes() >= 0 ? SAYS_YES : SAYS_NO;
        }

        int bids(int x, int[] ran) {
            note(ran, 10);
            return x + number;
        }

        int waits(int x, int[] ran) {
            note(ran, 11);
            return bids(x, ran) - v;
        }

        int tells(int x, int[] ran) {
            note(ran, 12);
            return waits(x, ran) * 2;
        }
    }

    private static class Plain extends Buyer {
        Plain(int kind, int number, int v, int worth) {
            super(kind, number, v, worth);
        }

        int does(Day day) {
            return day.gainOfYes() >= v ? SAYS_YES : SAYS_NO;
        }

        int waits(int x, int[] ran) {
            note(ran, 20);
            return super.waits(x, ran) ^ 6;
        }
    }

    private static class Waiting extends Buyer {
        Waiting(int kind, int number, int v, int worth) {
            super(kind, number, v, worth);
        }

        int does(Day day) {
            return day.value < day.price && day.mayGoAway(number) ? GOES_AWAY : super.does(day);
        }

        int bids(int x, int[] ran) {
            note(ran, 30);
            return super.bids(x * 3, ran);
        }
    }

    private static class Falling extends Buyer {
        Falling(int kind, int number, int v, int worth) {
            super(kind, number, v, worth);
        }

        int does(Day day) {
            return day.price > v && day.friendStands(number) ? SAYS_NO : super.does(day);
        }

        int tells(int x, int[] ran) {
            note(ran, 40);
            return super.tells(x, ran) + waits(1, ran);
        }
    }

    private static final class Sure extends Plain {
        Sure(int kind, int number, int v, int worth) {
            super(kind, number, v, worth);
        }

        int does(Day day) {
            return day.loaves <= v ? SAYS_YES : super.does(day);
        }

        int bids(int x, int[] ran) {
            note(ran, 50);
            return -super.bids(x, ran);
        }

        int waits(int x, int[] ran) {
            note(ran, 51);
            return super.waits(x + 1, ran);
        }
    }

    private static final class Late extends Waiting {
        Late(int kind, int number, int v, int worth) {
            super(kind, number, v, worth);
        }

        /** The one asked is the HEAD, so all others who stand are one fewer than THE ROW. */
        int does(Day day) {
            return day.standing - 1 >= v && day.mayGoAway(number) ? GOES_AWAY : super.does(day);
        }

        int tells(int x, int[] ran) {
            note(ran, 60);
            return super.tells(x - number, ran);
        }
    }

    private static final class Told extends Falling {
        Told(int kind, int number, int v, int worth) {
            super(kind, number, v, worth);
        }

        int does(Day day) {
            int act = day.tells[number * Day.PARTS + day.price % Day.PARTS];
            boolean asFalling = act == 0 || (act == GOES_AWAY && !day.mayGoAway(number));
            return asFalling ? super.does(day) : act;
        }

        int waits(int x, int[] ran) {
            note(ran, 70);
            return super.waits(x, ran) + super.bids(2, ran);
        }

        int bids(int x, int[] ran) {
            note(ran, 71);
            return super.bids(x, ran) ^ v;
        }
    }

    /** The CLAUSES of a text that was read; without any, what holds where no SHOP is. */
    private static final class Shop {
        static final int LETTERS = 7, RELATIONS = 3, NUMBERS = 100;
        static final int CLAUSES = 10;
        static final int MORE = 0, COST = 1;
        static final int NOT = -1, AND = -2, OR = -3;
        static final int MOST_AWAY = 9;

        int up;
        int down;
        int away;
        int fee;
        private final int[] sorts = new int[CLAUSES];
        private final int[] amounts = new int[CLAUSES];
        /** Where in code each clause's E ends; it begins where the one ahead of it ends. */
        private final int[] ends = new int[CLAUSES];
        /** All E, parts ahead of what joins them; a TEST is its letter, relation and number in one. */
        private final int[] code = new int[Reader.TEXT_LENGTH];
        private int clauses;
        private int coded;

        Shop() {
            clear();
        }

        void clear() {
            clauses = 0;
            coded = 0;
            up = 1;
            down = 1;
            away = 1;
            fee = 0;
        }

        void putCode(int op) {
            if (coded < code.length) {
                code[coded] = op;
                coded++;
            }
        }

        static int codeOf(int letter, int relation, int number) {
            return (letter * RELATIONS + relation) * NUMBERS + number;
        }

        /** The clause whose E was put last. */
        void putClause(int sort, int amount) {
            if (clauses < CLAUSES) {
                sorts[clauses] = sort;
                amounts[clauses] = amount;
                ends[clauses] = coded;
                clauses++;
            }
        }

        /** The n of all clauses of a sort whose E holds, together. */
        int sumOf(int sort, int[] measures) {
            int sum = 0;
            int from = 0;
            for (int c = 0; c < clauses; c++) {
                if (sorts[c] == sort && holds(from, ends[c], measures)) {
                    sum += amounts[c];
                }
                from = ends[c];
            }
            return sum;
        }

        private boolean holds(int from, int to, int[] measures) {
            // The answers that wait to be joined, the newest in the lowest bit: two a level at most.
            int answers = 0;
            for (int c = from; c < to; c++) {
                switch (code[c]) {
                    case NOT:
                        answers ^= 1;
                        break;
                    case AND:
                        answers = (answers >> 1) & (answers | ~1);
                        break;
                    case OR:
                        answers = (answers >> 1) | (answers & 1);
                        break;
                    default:
                        answers = answers << 1 | (passes(code[c], measures) ? 1 : 0);
                        break;
                }
            }
            return (answers & 1) == 1;
        }

        private static boolean passes(int test, int[] measures) {
            int letter = test / (RELATIONS * NUMBERS);
            if (letter < 0 || letter >= measures.length) {
                return false;
            }
            int relation = test / NUMBERS % RELATIONS;
            int number = test % NUMBERS;
            switch (relation) {
                case 0:
                    return measures[letter] < number;
                case 1:
                    return measures[letter] == number;
                default:
                    return measures[letter] > number;
            }
        }
    }

    /** THE TEXT, and how it is read: nothing is read twice, so the place where it stops is the FAULT. */
    private static final class Reader {
        static final int TEXT_LENGTH = 100;
        static final int NESTED = 4;

        int size;
        private final int[] text = new int[TEXT_LENGTH];
        private int at;
        private Shop shop;

        boolean add(int sign) {
            if (size >= TEXT_LENGTH) {
                return false;
            }
            text[size] = sign;
            size++;
            return true;
        }

        void empty() {
            size = 0;
        }

        /** -1, or the FAULT. */
        int readInto(Shop next) {
            shop = next;
            shop.clear();
            at = 0;
            for (int clauses = 1; clauses <= Shop.CLAUSES; clauses++) {
                if (!clause()) {
                    return at;
                }
                if (at >= size) {
                    return -1;
                }
                if (clauses == Shop.CLAUSES || !word(";")) {
                    return at;
                }
            }
            return at;
        }

        /** The sign that is next; 0, which no SHOP has, at the end. */
        private int next() {
            return at < size ? text[at] : 0;
        }

        private boolean word(String signs) {
            for (int s = 0; s < signs.length(); s++) {
                if (next() != signs.charAt(s)) {
                    return false;
                }
                at++;
            }
            return true;
        }

        private static String wordOf(int letter) {
            switch (letter) {
                case 'm':
                    return "more ";
                case 'c':
                    return "cost ";
                case 'u':
                    return "up ";
                case 'd':
                    return "down ";
                case 'a':
                    return "away ";
                case 'f':
                    return "fee ";
                default:
                    return "";
            }
        }

        private boolean clause() {
            int letter = next();
            String begin = wordOf(letter);
            if (begin.isEmpty() || !word(begin)) {
                return false;
            }
            int n = number();
            if (n < 0) {
                return false;
            }
            switch (letter) {
                case 'm':
                case 'c':
                    if (!word(" ") || !either(0)) {
                        return false;
                    }
                    shop.putClause(letter == 'm' ? Shop.MORE : Shop.COST, n);
                    return true;
                case 'u':
                    shop.up = n;
                    return true;
                case 'd':
                    shop.down = n;
                    return true;
                case 'a':
                    shop.away = Math.min(n, Shop.MOST_AWAY);
                    return true;
                default:
                    shop.fee = n;
                    return true;
            }
        }

        /** E; depth tells how many ( and ! it is within. */
        private boolean either(int depth) {
            if (!both(depth)) {
                return false;
            }
            while (at < size && text[at] == '|') {
                at++;
                if (!both(depth)) {
                    return false;
                }
                shop.putCode(Shop.OR);
            }
            return true;
        }

        private boolean both(int depth) {
            if (!factor(depth)) {
                return false;
            }
            while (at < size && text[at] == '&') {
                at++;
                if (!factor(depth)) {
                    return false;
                }
                shop.putCode(Shop.AND);
            }
            return true;
        }

        private boolean factor(int depth) {
            int sign = next();
            if (sign != '!' && sign != '(') {
                return test();
            }
            if (depth >= NESTED) {
                return false;
            }
            at++;
            if (sign == '(') {
                return either(depth + 1) && word(")");
            }
            if (!factor(depth + 1)) {
                return false;
            }
            shop.putCode(Shop.NOT);
            return true;
        }

        private boolean test() {
            int letter = "bkplraf".indexOf((char) next());
            if (letter < 0) {
                return false;
            }
            at++;
            int relation = "<=>".indexOf((char) next());
            if (relation < 0) {
                return false;
            }
            at++;
            int n = number();
            if (n < 0) {
                return false;
            }
            shop.putCode(Shop.codeOf(letter, relation, n));
            return true;
        }

        /** One or two digits; -1, if there is none. */
        private int number() {
            int from = at;
            int n = 0;
            while (at < size && at < from + 2 && text[at] >= '0' && text[at] <= '9') {
                n = 10 * n + text[at] - '0';
                at++;
            }
            return at == from ? -1 : n;
        }
    }

    private static final class Tape {
        static final int NO_SORT = -1, BYTES = 0, SHORTS = 1, INTS = 2, LONGS = 3, BOOLEANS = 4;
        static final int MOST_ITEMS = 60;

        final long[] items = new long[MOST_ITEMS];
        int sort = NO_SORT;
        int size;

        void become(int newSort, int newSize) {
            sort = newSort;
            size = newSize;
            for (int i = 0; i < MOST_ITEMS; i++) {
                items[i] = 0;
            }
        }

        boolean holdsNothing() {
            return sort == NO_SORT;
        }

        boolean hasPlace(int i) {
            return i >= 0 && i < size;
        }

        boolean hasStretch(int i, int n) {
            return n >= 0 && i >= 0 && n <= size && i <= size - n;
        }

        /** As many of the lowest bits as an item has. */
        long narrowed(long v) {
            switch (sort) {
                case BYTES:
                    return (byte) v;
                case SHORTS:
                    return (short) v;
                case INTS:
                    return (int) v;
                case BOOLEANS:
                    return v != 0 ? 1 : 0;
                default:
                    return v;
            }
        }
    }
}
