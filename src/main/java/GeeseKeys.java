/**
 * A fortress of eight courts whose gates are open only while a goose with their key is at them.
 * What each call does and answers is told by the document, promise by promise.
 */
public final class GeeseKeys {
    public static final int NONE = -1, BAD = -2, STATE = -3, FULL = -4;
    public static final long NO = Long.MIN_VALUE;

    /** What the host of the tapes and kinds refuses. */
    private static final int NOTHING = -11, CAST = -12, PLACE = -13, SIZE = -14;

    /** What stands for none, or for not by then. */
    private static final int NEVER = -5;

    /** What stands for NONE where an answer may be below 0. */
    private static final int NO_PULL = -10001;

    /** More hours than any that are asked for, so that what never comes is later than all that does. */
    private static final int LATE = 1000;

    private static final int COURTS = 8, GATES = 9, GEESE = 6, MOST_GRAIN = 99, MOST_V = 9;
    private static final int MOST_HOURS = 60, LAST_HOUR = 9999;
    private static final int OPENS_HOURS = 20, WAY_HOURS = 15, SEEN_HOURS = 12, MORE_GRAIN = 9;
    private static final int SEEN_ROWS = 5, PLAN_ROWS = 10, BOOK_ROWS = 8;
    private static final int TEXT_BYTES = 100, FORTRESSES = 6, CLAUSES = 10, DEPTH = 4;
    private static final int TAPES = 6, ITEMS = 60, KEPT_BODIES = 20;

    private static final int PLAIN = 0, GANDER = 1, GOSLING = 2, OLD = 3, SENTRY = 4, LARDER = 5, TOLD = 6;

    /** Of each kind the one above it. */
    private static final int[] ABOVE = {-1, PLAIN, PLAIN, PLAIN, GANDER, GOSLING, OLD};

    private static final int BYTES = 0, SHORTS = 1, INTS = 2, LONGS = 3, BOOLEANS = 4;

    private final Whole now = new Whole();
    private final Whole kept = new Whole();
    private boolean isKept = false;
    private final Ahead ahead = new Ahead();
    private final Reader reader = new Reader();
    private int fortresses = 0;
    private final Acts acts = new Acts();
    private final Tape[] tapes = new Tape[TAPES];

    public GeeseKeys() {
        for (int tape = 0; tape < TAPES; tape++) {
            tapes[tape] = new Tape();
        }
    }

    // ---- gates, geese, fortresses

    public int gate(int one, int other) {
        Yard yard = now.yard;
        if (!isCourt(one) || !isCourt(other)) {
            return NONE;
        }
        if (one == other) {
            return BAD;
        }
        if (yard.gates == GATES) {
            return FULL;
        }
        yard.one[yard.gates] = one;
        yard.other[yard.gates] = other;
        yard.gates++;
        return yard.gates - 1;
    }

    public int goose(int kind, int v, int court, int key) {
        Yard yard = now.yard;
        if (!isKind(kind) || !isCourt(court) || !isKey(key)) {
            return NONE;
        }
        if (v < 0 || v > MOST_V) {
            return BAD;
        }
        if (yard.count == GEESE) {
            return FULL;
        }
        yard.geese[yard.count].hatch(kind, v, court, key);
        yard.count++;
        return yard.count - 1;
    }

    public int of(int goose, int what) {
        Yard yard = now.yard;
        if (!isGoose(goose)) {
            return NO_PULL;
        }
        if (what >= 10 && isCourt(what - 10)) {
            return yard.pull(goose, what - 10);
        }
        Goose her = yard.geese[goose];
        switch (what) {
            case 0:
                return her.kind;
            case 1:
                return her.v;
            case 2:
                return her.court;
            case 3:
                return orNever(her.key);
            case 4:
                return her.isTaken ? 1 : 0;
            case 5:
                return yard.goal(goose);
            default:
                return NO_PULL;
        }
    }

    public int key(int goose, int key) {
        if (!isGoose(goose) || !isKey(key)) {
            return NONE;
        }
        Goose her = now.yard.geese[goose];
        int before = her.key;
        her.key = key;
        return orNever(before);
    }

    public int put(int goose, int court) {
        if (!isGoose(goose) || !isCourt(court)) {
            return NONE;
        }
        Goose her = now.yard.geese[goose];
        int before = her.court;
        her.court = court;
        return before;
    }

    public int take(int goose, boolean is) {
        if (!isGoose(goose)) {
            return NONE;
        }
        Goose her = now.yard.geese[goose];
        boolean before = her.isTaken;
        her.isTaken = is;
        return before ? 1 : 0;
    }

    public int grain(int court, int n) {
        if (!isCourt(court)) {
            return NONE;
        }
        if (!isGrain(n)) {
            return BAD;
        }
        int before = now.yard.grain[court];
        now.yard.grain[court] = n;
        return before;
    }

    public int row(int goose, int part, int n) {
        if (!isGoose(goose) || part < 0 || part >= Goose.PARTS) {
            return NONE;
        }
        if (n < 0 || n > 9) {
            return BAD;
        }
        Goose her = now.yard.geese[goose];
        if (her.kind != TOLD) {
            return STATE;
        }
        int before = her.row[part];
        her.row[part] = n;
        return before;
    }

    public int feed(int sign) {
        if (sign < 0 || sign > 127) {
            return BAD;
        }
        if (reader.size == TEXT_BYTES) {
            return FULL;
        }
        reader.text[reader.size] = sign;
        reader.size++;
        return reader.size;
    }

    public int fortress() {
        if (fortresses == FORTRESSES) {
            return FULL;
        }
        Fortress told = reader.fortressTold();
        reader.size = 0;
        if (told == null) {
            return -10 - reader.at;
        }
        now.yard.holds = told;
        fortresses++;
        return fortresses - 1;
    }

    public int told(int what) {
        Yard yard = now.yard;
        if (what >= 10 && isCourt(what - 10)) {
            return yard.grain[what - 10];
        }
        if (what >= 20 && isCourt(what - 20)) {
            return ahead.reachedFrom(yard, what - 20);
        }
        switch (what) {
            case 0:
                return yard.hour;
            case 1:
                return yard.eaten();
            case 2:
                return yard.openGates();
            case 3:
                return ahead.shutGates(yard);
            case 4:
                return yard.allGrain();
            default:
                return NONE;
        }
    }

    // ---- hours

    public int pass(int n) {
        if (!isHours(n, MOST_HOURS)) {
            return BAD;
        }
        if (now.yard.hour + n > LAST_HOUR) {
            return STATE;
        }
        now.yard.goHours(n);
        return now.yard.hour;
    }

    public int on(int n, int what) {
        boolean isGates = what == 0;
        boolean isGrain = what >= 10 && isCourt(what - 10);
        boolean isPlace = what >= 20 && isGoose(what - 20);
        if (!isGates && !isGrain && !isPlace) {
            return NONE;
        }
        if (!isHours(n, MOST_HOURS)) {
            return BAD;
        }
        Yard then = ahead.behind(now.yard, n);
        if (isGates) {
            return then.openGates();
        }
        return isGrain ? then.grain[what - 10] : then.geese[what - 20].court;
    }

    public int opens(int gate) {
        if (!isGate(gate)) {
            return NONE;
        }
        return hoursOrNever(ahead.hoursToOpen(now.yard, gate));
    }

    // ---- ways, leading

    public int way(int from, int to, int what) {
        if (!isCourt(from) || !isCourt(to) || what < 0 || what > 1) {
            return NONE;
        }
        if (what == 1) {
            return ahead.keysToSwap(now.yard, from, to);
        }
        return hoursOrNever(ahead.hoursOfWay(now.yard, from, to));
    }

    public int lead(int gate, int n) {
        if (!isGate(gate)) {
            return NONE;
        }
        if (n < 1 || n > MOST_GRAIN) {
            return BAD;
        }
        return ahead.courtToLead(now.yard, gate, n);
    }

    // ---- seen, odds

    public int see(int goose, int n, int court) {
        if (goose == -1) {
            now.seen.size = 0;
            return 0;
        }
        if (!isGoose(goose) || !isCourt(court)) {
            return NONE;
        }
        if (!isHours(n, SEEN_HOURS)) {
            return BAD;
        }
        return now.seen.add(goose, n, court);
    }

    public int from(int goose) {
        if (!isGoose(goose)) {
            return NONE;
        }
        return ahead.courtsAsSeen(now, goose);
    }

    public int can(int goose, int what) {
        if (!isGoose(goose) || what < 0 || what > 1) {
            return NONE;
        }
        int numbers = ahead.numbersAsSeen(now, goose);
        return what == 0 ? Integer.bitCount(numbers) : leastIn(numbers);
    }

    public long odds(int gate, int n, int part) {
        if (!isGate(gate) || !isHours(n, OPENS_HOURS) || !isPart(part)) {
            return NO;
        }
        return eighths(ahead.courtsThatOpen(now.yard, gate, n), part);
    }

    public long mean(int n, int part) {
        if (!isHours(n, MOST_HOURS) || !isPart(part)) {
            return NO;
        }
        return eighths(ahead.behind(now.yard, n).allGrain(), part);
    }

    // ---- plans, books

    public int plan(int what, int n) {
        if (what == -1) {
            now.plan.size = 0;
            return 0;
        }
        boolean isRow = what == 0 || what == 1 && isCourt(n) || (what == 2 || what == 3) && isGoose(n);
        return isRow ? now.plan.add(what, n, 0) : NONE;
    }

    public int ends(int what) {
        if (what < 0 || what > 1) {
            return NONE;
        }
        Yard end = ahead.planned(now);
        return what == 0 ? end.openGates() : end.allGrain();
    }

    public int book(int court, int grain) {
        if (court == -1) {
            now.book.size = 0;
            return 0;
        }
        if (!isCourt(court)) {
            return NONE;
        }
        if (!isGrain(grain)) {
            return BAD;
        }
        return now.book.add(court, grain, 0);
    }

    public int looked() {
        Rows book = now.book;
        for (int row = 0; row < book.size; row++) {
            if (now.yard.grain[book.first[row]] != book.second[row]) {
                return row;
            }
        }
        return NEVER;
    }

    // ---- judging, the image, acts, tapes

    public int judge(int tape, int i) {
        if (!isTape(tape)) {
            return NONE;
        }
        Tape row = tapes[tape];
        if (row.isThere() && row.sort != BYTES) {
            return CAST;
        }
        for (int court = 0; court < COURTS; court++) {
            if (i < 0 || !row.isThere() || court >= row.size - i) {
                return 100 + court;
            }
            if (row.items[i + court] != now.yard.grain[court]) {
                return court;
            }
        }
        return NEVER;
    }

    public int image() {
        kept.copyFrom(now);
        isKept = true;
        return now.yard.count;
    }

    public int undo() {
        if (!isKept) {
            return STATE;
        }
        now.copyFrom(kept);
        return now.yard.count;
    }

    public int act(int goose, int act, int x) {
        acts.forget();
        if (!isGoose(goose) || act < 0 || act > 2) {
            return 0;
        }
        return acts.done(now.yard.geese[goose], goose, act, x);
    }

    public int trace(int i) {
        if (i < 0 || i >= acts.ran || i >= KEPT_BODIES) {
            return NONE;
        }
        return acts.bodies[i];
    }

    public int taken(int goose, int k) {
        if (!isKind(k)) {
            return BAD;
        }
        if (!isGoose(goose)) {
            return NOTHING;
        }
        int kind = now.yard.geese[goose].kind;
        return isUnder(kind, k) ? kind : CAST;
    }

    public int count(int what) {
        switch (what) {
            case 0:
                return now.yard.count;
            case 1:
                return now.yard.gates;
            case 2:
                return fortresses;
            case 3:
                return now.seen.size;
            case 4:
                return now.plan.size;
            case 5:
                return now.book.size;
            case 6:
                return reader.size;
            case 7:
                return acts.ran;
            default:
                return BAD;
        }
    }

    public int tape(int tape, int sort, int n) {
        if (!isTape(tape)) {
            return NONE;
        }
        if (sort == Tape.NO_SORT) {
            tapes[tape].become(sort, 0);
            return 1;
        }
        if (sort < BYTES || sort > BOOLEANS || n > ITEMS) {
            return BAD;
        }
        if (n < 0) {
            return SIZE;
        }
        tapes[tape].become(sort, n);
        return 1;
    }

    public int item(int tape, int i, long v) {
        if (!isTape(tape)) {
            return NONE;
        }
        Tape row = tapes[tape];
        if (!row.isThere()) {
            return NOTHING;
        }
        if (!row.hasPlaces(i, 1)) {
            return PLACE;
        }
        row.items[i] = row.cut(v);
        return 1;
    }

    public long read(int tape, int i) {
        if (!isTape(tape) || !tapes[tape].hasPlaces(i, 1)) {
            return NO;
        }
        return tapes[tape].items[i];
    }

    public int shift(int tape, int i, int other, int j, int n) {
        if (!isTape(tape) || !isTape(other)) {
            return NONE;
        }
        Tape source = tapes[tape];
        Tape target = tapes[other];
        if (!source.isThere() || !target.isThere()) {
            return NOTHING;
        }
        if (source.sort != target.sort) {
            return CAST;
        }
        if (!source.hasPlaces(i, n) || !target.hasPlaces(j, n)) {
            return PLACE;
        }
        System.arraycopy(source.items, i, target.items, j, n);
        return n;
    }

    // ---- what numbers are

    private static boolean isCourt(int court) {
        return court >= 0 && court < COURTS;
    }

    private static boolean isKind(int kind) {
        return kind >= 0 && kind < ABOVE.length;
    }

    private static boolean isKey(int key) {
        return key >= -1 && key < GATES;
    }

    private static boolean isGrain(int n) {
        return n >= 0 && n <= MOST_GRAIN;
    }

    private static boolean isHours(int n, int most) {
        return n >= 0 && n <= most;
    }

    private static boolean isPart(int part) {
        return part == 0 || part == 1;
    }

    private static boolean isTape(int tape) {
        return tape >= 0 && tape < TAPES;
    }

    private boolean isGoose(int goose) {
        return goose >= 0 && goose < now.yard.count;
    }

    private boolean isGate(int gate) {
        return gate >= 0 && gate < now.yard.gates;
    }

    /** Whether a kind is another one, or under it. */
    private static boolean isUnder(int kind, int other) {
        int at = kind;
        for (int steps = 0; steps < ABOVE.length && at >= 0; steps++) {
            if (at == other) {
                return true;
            }
            at = ABOVE[at];
        }
        return false;
    }

    private static int orNever(int key) {
        return key == -1 ? NEVER : key;
    }

    private static int hoursOrNever(int hours) {
        return hours == LATE ? NEVER : hours;
    }

    /** The least number whose bit is set. */
    private static int leastIn(int bits) {
        for (int n = 0; n < 32; n++) {
            if (hasBit(bits, n)) {
                return n;
            }
        }
        return NEVER;
    }

    private static boolean hasBit(int bits, int n) {
        return (bits >> n & 1) == 1;
    }

    /** So many eighths in lowest terms: part 0 above, part 1 below the line. */
    private static long eighths(int n, int part) {
        int above = n;
        int below = 8;
        while (below > 1 && above % 2 == 0) {
            above /= 2;
            below /= 2;
        }
        return part == 0 ? above : below;
    }

    /** A goose with all that is hers but her number. */
    private static final class Goose {
        static final int PARTS = 4;

        int kind = PLAIN, v = 0, court = 0, key = -1;
        boolean isTaken = false;
        final int[] row = new int[PARTS];

        /** Her place may have been another goose's ahead of an undo, so that all of it is made anew. */
        void hatch(int newKind, int newV, int newCourt, int newKey) {
            kind = newKind;
            v = newV;
            court = newCourt;
            key = newKey;
            isTaken = false;
            for (int part = 0; part < PARTS; part++) {
                row[part] = 0;
            }
        }

        void copyFrom(Goose her) {
            kind = her.kind;
            v = her.v;
            court = her.court;
            key = her.key;
            isTaken = her.isTaken;
            System.arraycopy(her.row, 0, row, 0, PARTS);
        }
    }

    /** Courts, gates, geese, the hour and the fortress that holds: all by which hours go. */
    private static final class Yard {
        final int[] grain = new int[COURTS];
        final int[] one = new int[GATES], other = new int[GATES];
        int gates = 0;
        final Goose[] geese = new Goose[GEESE];
        int count = 0;
        int hour = 0;
        Fortress holds = null;
        private final int[] values = new int[Fortress.LETTERS];

        Yard() {
            for (int court = 0; court < COURTS; court++) {
                grain[court] = 5;
            }
            for (int goose = 0; goose < GEESE; goose++) {
                geese[goose] = new Goose();
            }
        }

        void copyFrom(Yard yard) {
            System.arraycopy(yard.grain, 0, grain, 0, COURTS);
            System.arraycopy(yard.one, 0, one, 0, GATES);
            System.arraycopy(yard.other, 0, other, 0, GATES);
            gates = yard.gates;
            for (int goose = 0; goose < yard.count; goose++) {
                geese[goose].copyFrom(yard.geese[goose]);
            }
            count = yard.count;
            hour = yard.hour;
            holds = yard.holds;
        }

        int eaten() {
            return holds == null ? 1 : holds.eaten;
        }

        int allGrain() {
            int all = 0;
            for (int court = 0; court < COURTS; court++) {
                all += grain[court];
            }
            return all;
        }

        void addGrain(int court, int n) {
            grain[court] = Math.min(MOST_GRAIN, grain[court] + n);
        }

        /** Whether there is such a gate, and the court is at one end of it. */
        private boolean isEnd(int gate, int court) {
            return gate >= 0 && gate < gates && (one[gate] == court || other[gate] == court);
        }

        /** The gates that are open, as bits. */
        int openGates() {
            int open = 0;
            for (int goose = 0; goose < count; goose++) {
                Goose her = geese[goose];
                if (!her.isTaken && isEnd(her.key, her.court)) {
                    open |= 1 << her.key;
                }
            }
            return open;
        }

        /** The courts at the other ends of those of some gates (bits) that have an end in some courts (bits). */
        int beyond(int courts, int some) {
            int found = 0;
            for (int gate = 0; gate < gates; gate++) {
                if (!hasBit(some, gate)) {
                    continue;
                }
                if (hasBit(courts, one[gate])) {
                    found |= 1 << other[gate];
                }
                if (hasBit(courts, other[gate])) {
                    found |= 1 << one[gate];
                }
            }
            return found;
        }

        private boolean isOtherAt(int goose, int court) {
            for (int each = 0; each < count; each++) {
                if (each != goose && !geese[each].isTaken && geese[each].court == court) {
                    return true;
                }
            }
            return false;
        }

        private int sum(int goose, int court) {
            if (holds == null) {
                return grain[court];
            }
            values[0] = goose;
            values[1] = geese[goose].kind;
            values[2] = geese[goose].v;
            values[3] = court;
            values[4] = grain[court];
            values[5] = hour % 10;
            return grain[court] + holds.lured(values);
        }

        int pull(int goose, int court) {
            Goose her = geese[goose];
            int sum = sum(goose, court);
            int fled = isOtherAt(goose, court) ? sum - her.v : sum;
            int stayed = her.court == court ? sum : 0;
            switch (her.kind) {
                case GANDER:
                    return fled;
                case GOSLING:
                    return sum / 2;
                case OLD:
                    return stayed;
                case SENTRY:
                    return fled + (isEnd(her.key, court) ? 10 : 0);
                case LARDER:
                    return sum / 2 + (court == 0 ? 5 : 0);
                case TOLD:
                    return stayed + her.row[court % Goose.PARTS];
                default:
                    return sum;
            }
        }

        /** The court where a goose would go now: hers, if she stays. */
        int goal(int goose) {
            int best = geese[goose].court;
            int most = pull(goose, best);
            int near = beyond(1 << best, -1);
            for (int court = 0; court < COURTS; court++) {
                if (!hasBit(near, court)) {
                    continue;
                }
                int pull = pull(goose, court);
                if (pull > most) {
                    most = pull;
                    best = court;
                }
            }
            return best;
        }

        void goHour() {
            int eaten = eaten();
            for (int goose = 0; goose < count; goose++) {
                Goose her = geese[goose];
                if (!her.isTaken) {
                    her.court = goal(goose);
                    grain[her.court] = Math.max(0, grain[her.court] - eaten);
                }
            }
            hour++;
        }

        void goHours(int n) {
            for (int gone = 0; gone < n; gone++) {
                goHour();
            }
        }
    }

    /** Rows of up to three numbers told by hand. */
    private static final class Rows {
        final int[] first, second, third;
        int size = 0;

        Rows(int most) {
            first = new int[most];
            second = new int[most];
            third = new int[most];
        }

        /** How many rows there are with this one, or FULL. */
        int add(int one, int two, int three) {
            if (size == first.length) {
                return FULL;
            }
            first[size] = one;
            second[size] = two;
            third[size] = three;
            size++;
            return size;
        }

        /** From rows that are as many at most. */
        void copyFrom(Rows rows) {
            System.arraycopy(rows.first, 0, first, 0, first.length);
            System.arraycopy(rows.second, 0, second, 0, second.length);
            System.arraycopy(rows.third, 0, third, 0, third.length);
            size = rows.size;
        }
    }

    /** All that an image has. */
    private static final class Whole {
        final Yard yard = new Yard();
        final Rows seen = new Rows(SEEN_ROWS);
        final Rows plan = new Rows(PLAN_ROWS);
        final Rows book = new Rows(BOOK_ROWS);

        void copyFrom(Whole whole) {
            yard.copyFrom(whole.yard);
            seen.copyFrom(whole.seen);
            plan.copyFrom(whole.plan);
            book.copyFrom(whole.book);
        }
    }

    /** What comes of a yard as it is now, tried out in a yard of its own. */
    private static final class Ahead {
        private final Yard trial = new Yard();

        Yard behind(Yard now, int hours) {
            trial.copyFrom(now);
            trial.goHours(hours);
            return trial;
        }

        int hoursToOpen(Yard now, int gate) {
            trial.copyFrom(now);
            return hoursUntilOpen(gate);
        }

        private int hoursUntilOpen(int gate) {
            for (int hours = 0; hours < OPENS_HOURS; hours++) {
                if (hasBit(trial.openGates(), gate)) {
                    return hours;
                }
                trial.goHour();
            }
            return hasBit(trial.openGates(), gate) ? OPENS_HOURS : LATE;
        }

        int shutGates(Yard now) {
            trial.copyFrom(now);
            int open = trial.openGates();
            for (int hours = 0; hours < OPENS_HOURS; hours++) {
                trial.goHour();
                open |= trial.openGates();
            }
            return (1 << now.gates) - 1 & ~open;
        }

        int hoursOfWay(Yard now, int from, int to) {
            trial.copyFrom(now);
            return hoursUntilThere(from, to);
        }

        private int hoursUntilThere(int from, int to) {
            int reached = 1 << from;
            for (int hours = 0; hours < WAY_HOURS; hours++) {
                if (hasBit(reached, to)) {
                    return hours;
                }
                reached |= trial.beyond(reached, trial.openGates());
                trial.goHour();
            }
            return hasBit(reached, to) ? WAY_HOURS : LATE;
        }

        /** The courts, as bits, to which a man gets. */
        int reachedFrom(Yard now, int from) {
            trial.copyFrom(now);
            int reached = 1 << from;
            for (int hours = 0; hours < WAY_HOURS; hours++) {
                reached |= trial.beyond(reached, trial.openGates());
                trial.goHour();
            }
            return reached;
        }

        int keysToSwap(Yard now, int from, int to) {
            trial.copyFrom(now);
            int least = hoursUntilThere(from, to);
            int found = NEVER;
            for (int lesser = 0; lesser < now.count; lesser++) {
                for (int greater = lesser + 1; greater < now.count; greater++) {
                    trial.copyFrom(now);
                    trial.geese[lesser].key = now.geese[greater].key;
                    trial.geese[greater].key = now.geese[lesser].key;
                    int hours = hoursUntilThere(from, to);
                    if (hours < least) {
                        least = hours;
                        found = 10 * lesser + greater;
                    }
                }
            }
            return found;
        }

        int courtToLead(Yard now, int gate, int n) {
            trial.copyFrom(now);
            int least = hoursUntilOpen(gate);
            int found = NEVER;
            for (int court = 0; court < COURTS; court++) {
                trial.copyFrom(now);
                trial.addGrain(court, n);
                int hours = hoursUntilOpen(gate);
                if (hours < least) {
                    least = hours;
                    found = court;
                }
            }
            return found;
        }

        /** In how many courts more grain now has the gate open behind n hours. */
        int courtsThatOpen(Yard now, int gate, int n) {
            int courts = 0;
            for (int court = 0; court < COURTS; court++) {
                trial.copyFrom(now);
                trial.addGrain(court, MORE_GRAIN);
                trial.goHours(n);
                if (hasBit(trial.openGates(), gate)) {
                    courts++;
                }
            }
            return courts;
        }

        /** The courts, as bits, by which all is as seen, were the goose there now. */
        int courtsAsSeen(Whole now, int goose) {
            int courts = 0;
            for (int court = 0; court < COURTS; court++) {
                trial.copyFrom(now.yard);
                trial.geese[goose].court = court;
                if (isAsSeen(now.seen)) {
                    courts |= 1 << court;
                }
            }
            return courts;
        }

        /** The numbers v, as bits, by which all is as seen, were one the goose's. */
        int numbersAsSeen(Whole now, int goose) {
            int numbers = 0;
            for (int v = 0; v <= MOST_V; v++) {
                trial.copyFrom(now.yard);
                trial.geese[goose].v = v;
                if (isAsSeen(now.seen)) {
                    numbers |= 1 << v;
                }
            }
            return numbers;
        }

        private boolean isAsSeen(Rows seen) {
            for (int hours = 0; hours <= SEEN_HOURS; hours++) {
                for (int row = 0; row < seen.size; row++) {
                    boolean isDue = seen.second[row] == hours;
                    if (isDue && trial.geese[seen.first[row]].court != seen.third[row]) {
                        return false;
                    }
                }
                trial.goHour();
            }
            return true;
        }

        Yard planned(Whole now) {
            trial.copyFrom(now.yard);
            for (int row = 0; row < now.plan.size; row++) {
                int n = now.plan.second[row];
                switch (now.plan.first[row]) {
                    case 0:
                        trial.goHour();
                        break;
                    case 1:
                        trial.addGrain(n, MORE_GRAIN);
                        break;
                    default:
                        trial.geese[n].isTaken = now.plan.first[row] == 2;
                        break;
                }
            }
            return trial;
        }
    }

    /**
     * What lures and scares, as steps that work on a stack of truths (its bits, the top lowest):
     * a test puts one on it, NOT, AND and OR work on those on top, LURE and SCARE take the last one off.
     * So no call needs to go into the depth of the text.
     */
    private static final class Fortress {
        static final int LETTERS = 6;
        static final int LESS = 0, EQUAL = 1, MORE = 2, NOT = 3, AND = 4, OR = 5, LURE = 6, SCARE = 7;

        int eaten = 1;
        private final int[] steps = new int[TEXT_BYTES], letters = new int[TEXT_BYTES], numbers = new int[TEXT_BYTES];
        private int size = 0;

        void clear() {
            eaten = 1;
            size = 0;
        }

        /** Each step stands for a byte of its text at least, so that all find room. */
        void add(int step, int letter, int number) {
            if (size < TEXT_BYTES) {
                steps[size] = step;
                letters[size] = letter;
                numbers[size] = number;
                size++;
            }
        }

        /** The numbers of all that lures by these values of the letters, less those of all that scares. */
        int lured(int[] values) {
            int lured = 0;
            int truths = 0;
            for (int at = 0; at < size; at++) {
                int value = values[letters[at]];
                int number = numbers[at];
                switch (steps[at]) {
                    case LESS:
                        truths = truths << 1 | (value < number ? 1 : 0);
                        break;
                    case EQUAL:
                        truths = truths << 1 | (value == number ? 1 : 0);
                        break;
                    case MORE:
                        truths = truths << 1 | (value > number ? 1 : 0);
                        break;
                    case NOT:
                        truths ^= 1;
                        break;
                    case AND:
                        truths = truths >> 1 & (truths | ~1);
                        break;
                    case OR:
                        truths = truths >> 1 | truths & 1;
                        break;
                    case LURE:
                        lured += (truths & 1) * number;
                        truths >>= 1;
                        break;
                    default:
                        lured -= (truths & 1) * number;
                        truths >>= 1;
                        break;
                }
            }
            return lured;
        }
    }

    /** The text and its reader: each part answers whether it is there; if not, the reader stands at the fault. */
    private static final class Reader {
        /** In the order of a fortress's values, and of its steps. */
        private static final String LETTERS = "pkvcgh", SIGNS = "<=>";

        final int[] text = new int[TEXT_BYTES];
        int size = 0;
        int at = 0;
        private int number = 0;
        private Fortress fortress = new Fortress();

        /** The fortress that the text tells, or null. */
        Fortress fortressTold() {
            at = 0;
            fortress.clear();
            for (int clauses = 1; clauses <= CLAUSES && readClause(); clauses++) {
                if (at == size) {
                    Fortress whole = fortress;
                    fortress = new Fortress();
                    return whole;
                }
                if (clauses == CLAUSES || !readSign(';')) {
                    return null;
                }
            }
            return null;
        }

        private boolean readClause() {
            if (isNext('e')) {
                if (!readWord("eat ") || !readNumber()) {
                    return false;
                }
                fortress.eaten = number;
                return true;
            }
            boolean isScare = isNext('s');
            if (!readWord(isScare ? "scare " : "lure ") || !readNumber()) {
                return false;
            }
            int n = number;
            if (!readSign(' ') || !readEither(0)) {
                return false;
            }
            fortress.add(isScare ? Fortress.SCARE : Fortress.LURE, 0, n);
            return true;
        }

        /** E, within so many ( and !. */
        private boolean readEither(int depth) {
            if (!readBoth(depth)) {
                return false;
            }
            for (int more = 0; more < size && readSign('|'); more++) {
                if (!readBoth(depth)) {
                    return false;
                }
                fortress.add(Fortress.OR, 0, 0);
            }
            return true;
        }

        /** T, within so many ( and !. */
        private boolean readBoth(int depth) {
            if (!readFactor(depth)) {
                return false;
            }
            for (int more = 0; more < size && readSign('&'); more++) {
                if (!readFactor(depth)) {
                    return false;
                }
                fortress.add(Fortress.AND, 0, 0);
            }
            return true;
        }

        /** F, within so many ( and !. */
        private boolean readFactor(int depth) {
            if (depth < DEPTH && readSign('!')) {
                if (!readFactor(depth + 1)) {
                    return false;
                }
                fortress.add(Fortress.NOT, 0, 0);
                return true;
            }
            if (depth < DEPTH && readSign('(')) {
                return readEither(depth + 1) && readSign(')');
            }
            int letter = readOneOf(LETTERS);
            int sign = letter < 0 ? -1 : readOneOf(SIGNS);
            if (sign < 0 || !readNumber()) {
                return false;
            }
            fortress.add(sign, letter, number);
            return true;
        }

        /** One or two digits. */
        private boolean readNumber() {
            if (!isDigit()) {
                return false;
            }
            number = text[at] - '0';
            at++;
            if (isDigit()) {
                number = 10 * number + text[at] - '0';
                at++;
            }
            return true;
        }

        private boolean readWord(String word) {
            for (int place = 0; place < word.length(); place++) {
                if (!readSign(word.charAt(place))) {
                    return false;
                }
            }
            return true;
        }

        private boolean readSign(char sign) {
            if (!isNext(sign)) {
                return false;
            }
            at++;
            return true;
        }

        /** Which of these signs is read, or -1. */
        private int readOneOf(String signs) {
            int which = at < size ? signs.indexOf((char) text[at]) : -1;
            if (which >= 0) {
                at++;
            }
            return which;
        }

        private boolean isNext(char sign) {
            return at < size && text[at] == sign;
        }

        private boolean isDigit() {
            return at < size && text[at] >= '0' && text[at] <= '9';
        }
    }

    /** The acts of a goose, and the trace of the latest one. A kind's body may call on those above it. */
    private static final class Acts {
        final int[] bodies = new int[KEPT_BODIES];
        int ran = 0;
        private int own = PLAIN, i = 0, v = 0;

        void forget() {
            ran = 0;
        }

        int done(Goose her, int goose, int act, int x) {
            own = her.kind;
            i = goose;
            v = her.v;
            switch (act) {
                case 0:
                    return honks(this, own, x);
                case 1:
                    return struts(this, own, x);
                default:
                    return tells(this, own, x);
            }
        }

        private void begin(int body) {
            if (ran < KEPT_BODIES) {
                bodies[ran] = body;
            }
            ran++;
        }

        /** How a kind honks. Static, as struts and tells are: LANGUAGE.md asks it of what calls itself. */
        private static int honks(Acts acts, int kind, int x) {
            switch (kind) {
                case GOSLING:
                case LARDER:
                    acts.begin(30);
                    return honks(acts, PLAIN, x * 3);
                case SENTRY:
                    acts.begin(50);
                    return -honks(acts, GANDER, x);
                case TOLD:
                    acts.begin(71);
                    return honks(acts, OLD, x) ^ acts.v;
                default:
                    acts.begin(10);
                    return x + acts.i;
            }
        }

        private static int struts(Acts acts, int kind, int x) {
            switch (kind) {
                case GANDER:
                    acts.begin(20);
                    return struts(acts, PLAIN, x) ^ 6;
                case SENTRY:
                    acts.begin(51);
                    return struts(acts, GANDER, x + 1);
                case TOLD:
                    acts.begin(70);
                    return struts(acts, OLD, x) + honks(acts, OLD, 2);
                default:
                    acts.begin(11);
                    return honks(acts, acts.own, x) - acts.v;
            }
        }

        private static int tells(Acts acts, int kind, int x) {
            switch (kind) {
                case OLD:
                case TOLD:
                    acts.begin(40);
                    return tells(acts, PLAIN, x) + struts(acts, acts.own, 1);
                case LARDER:
                    acts.begin(60);
                    return tells(acts, GOSLING, x - acts.i);
                default:
                    acts.begin(12);
                    return struts(acts, acts.own, x) * 2;
            }
        }
    }

    /** A row of items of one sort, each held as a long, or nothing. */
    private static final class Tape {
        static final int NO_SORT = -1;

        int sort = NO_SORT;
        int size = 0;
        final long[] items = new long[ITEMS];

        boolean isThere() {
            return sort != NO_SORT;
        }

        void become(int newSort, int newSize) {
            sort = newSort;
            size = newSize;
            for (int place = 0; place < ITEMS; place++) {
                items[place] = 0;
            }
        }

        /** Whether n items stand from a place on. */
        boolean hasPlaces(int place, int n) {
            return place >= 0 && n >= 0 && place <= size && n <= size - place;
        }

        /** What an item of this sort keeps of a number. */
        long cut(long number) {
            switch (sort) {
                case BYTES:
                    return (byte) number;
                case SHORTS:
                    return (short) number;
                case INTS:
                    return (int) number;
                case BOOLEANS:
                    return number != 0 ? 1 : 0;
                default:
                    return number;
            }
        }
    }
}
