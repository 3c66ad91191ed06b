import java.util.Arrays;

/**
 * Who rings whom: persons with a secret each and the numbers of some others, calls in which
 * both tell one another all they have, and rules of who may ring whom. The document tells what
 * each method answers; words of it (PERSON, RULE, GOOD ..) are used here as it uses them.
 */
public final class CallRounds {
    public static final int UNKNOWN = -1, OUTSIDE = -2, STATE = -3, FULL = -4, NONE = -9;
    public static final long LOST = Long.MIN_VALUE;

    private static final int NULL = 1, CAST = 2, INDEX = 3, SIZE = 4;
    private static final int FAULT_BASE = -10, TEXT_FAULT_BASE = -100;
    private static final int NEW = 1, TOKEN = 2, HUB = 3, RULES = 4;
    private static final int SURE = 2, MAYBE = 1, NEITHER = 0, JOINED = 3, NET_ANSWERS = 4;
    private static final int MOST_PERSONS = 4, MOST_CALLS = 12, MOST_CALLS_SEEN = 4;
    private static final int MOST_OTHER_NUMBERS = 12, LARGEST_SMALL_NET = 3;
    private static final int SHEETS = 4, LANES = 3, MOST_CELLS = 60, KINDS = 3;
    /** Each CALL of a RUN gives a SECRET to somebody, and only 12 can be learnt. */
    private static final int LONGEST_RUN = 12;

    private final Sheet[] sheets = new Sheet[SHEETS];
    private final Call[] made = new Call[MOST_CALLS];
    private int madeCount;
    private long start;
    private long now;
    private int fault;
    private final Trace trace = new Trace();
    private final Runs runs = new Runs();
    private final Alike alike = new Alike();
    /** What mends the NET, a set a RULE: dear to find and asked for number by number. */
    private final int[] mending = new int[RULES];
    private int mendingFound;
    /** ALL NETS as counted for a size and a RULE when first asked for: the answers never change. */
    private final int[] netCounts = new int[LARGEST_SMALL_NET * RULES * NET_ANSWERS];
    private int netsCounted;

    public CallRounds() {
    }

    // ---- 1 the net, calls

    public int net(int sheet, int lane, int i, int n) {
        fault = 0;
        if (!isSheet(sheet)) return UNKNOWN;
        if (!isLane(lane)) return OUTSIDE;
        Sheet row = sheets[sheet];
        if (row == null) return faulted(NULL);
        if (row.lane != lane) return faulted(CAST);
        if (n < 0) return faulted(SIZE);
        if (!row.has(i, n)) return faulted(INDEX);
        NetText text = new NetText();
        int wrong = text.read(row, i, n);
        if (wrong >= 0) return TEXT_FAULT_BASE - wrong;
        begin(Position.first(text.persons, text.numbers));
        return text.persons;
    }

    public int ofPerson(int p, int what) {
        if (!isPerson(p)) return UNKNOWN;
        switch (what) {
            case 0: return Position.secretsOf(now, p);
            case 1: return Position.numbersOf(now, p);
            case 2: return Position.numbersOf(start, p);
            case 3: return truth(Position.isExpert(now, p));
            case 4: return truth(Position.hasToken(now, TOKEN, p));
            case 5: return truth(Position.hasToken(now, HUB, p));
            default: return OUTSIDE;
        }
    }

    public int call(int p, int q) {
        if (!isPerson(p) || !isPerson(q)) return UNKNOWN;
        if (p == q) return OUTSIDE;
        if (!contains(Position.numbersOf(now, p), q)) return STATE;
        if (madeCount >= MOST_CALLS) return FULL;
        int number = madeCount;
        made[number] = newCall(number, p, q);
        madeCount = number + 1;
        moveTo(Position.ring(now, p, q));
        return number;
    }

    public int ofCall(int c, int what) {
        Call one = callAt(c);
        if (one == null) return UNKNOWN;
        switch (what) {
            case 0: return one.kind();
            case 1: return one.ringer;
            case 2: return one.rung;
            case 3: return one.learntBy(one.ringer);
            case 4: return one.learntBy(one.rung);
            default: return OUTSIDE;
        }
    }

    public int back() {
        Call latest = callAt(madeCount - 1);
        if (latest == null) return STATE;
        madeCount = latest.number;
        moveTo(latest.before);
        return madeCount;
    }

    // ---- 2 rules, runs

    public int may(int rule, int p) {
        if (!isRule(rule) || !isPerson(p)) return UNKNOWN;
        return Position.whomMay(now, rule, p);
    }

    public long runs(int rule, int what) {
        if (!isRule(rule) || !isEither(what) || noPersons()) return LOST;
        return what == 0 ? runs.all(now, rule) : runs.good(now, rule);
    }

    public int verdict(int rule) {
        if (!isRule(rule)) return UNKNOWN;
        if (noPersons()) return STATE;
        return runs.judge(now, rule);
    }

    public int calls(int rule, int what) {
        if (!isRule(rule)) return UNKNOWN;
        if (!isEither(what)) return OUTSIDE;
        if (noPersons()) return STATE;
        return what == 0 ? runs.fewest(now, rule) : runs.most(now, rule);
    }

    public int keeps(int rule, int p, int q) {
        if (!isRule(rule) || !isPerson(p) || !isPerson(q)) return UNKNOWN;
        if (p == q) return OUTSIDE;
        if (!contains(Position.whomMay(now, rule, p), q)) return STATE;
        return runs.judge(Position.ring(now, p, q), rule);
    }

    public int best(int rule, int what) {
        if (!isRule(rule)) return UNKNOWN;
        if (!isEither(what)) return OUTSIDE;
        if (noPersons()) return STATE;
        int pair = runs.bestPair(now, rule);
        if (pair == NONE) return NONE;
        return what == 0 ? ringerOf(pair) : rungOf(pair);
    }

    // ---- 3 what one knows

    public int alike(int p) {
        if (!isPerson(p)) return UNKNOWN;
        if (madeCount > MOST_CALLS_SEEN) return STATE;
        return alike.rowsFor(p, start, made, madeCount);
    }

    public int sure(int p, int q, int secret) {
        if (!isPerson(p) || !isPerson(q) || !isPerson(secret)) return UNKNOWN;
        if (madeCount > MOST_CALLS_SEEN) return STATE;
        return truth(contains(surelyHad(p, q), secret));
    }

    public int known(int p, int q) {
        if (!isPerson(p) || !isPerson(q)) return UNKNOWN;
        if (madeCount > MOST_CALLS_SEEN) return STATE;
        return surelyHad(p, q);
    }

    public int end(int p) {
        if (!isPerson(p)) return UNKNOWN;
        if (madeCount > MOST_CALLS_SEEN) return STATE;
        int persons = Position.persons(now);
        for (int q = 0; q < persons; q++) {
            if (surelyHad(p, q) != Position.everySecret(now)) return 0;
        }
        return 1;
    }

    // ---- 4 nets

    public int joined() {
        if (noPersons()) return STATE;
        return truth(Net.isJoined(Position.persons(start), Position.allNumbers(start)));
    }

    public int bridge(int k) {
        if (!isPlaceOfNumber(k)) return UNKNOWN;
        int persons = Position.persons(start);
        int numbers = Position.allNumbers(start);
        if (noPersons() || !Net.isJoined(persons, numbers)) return STATE;
        return countOrPick(Net.bridges(persons, numbers), k);
    }

    public int sun() {
        if (noPersons()) return STATE;
        return truth(Net.isSun(Position.persons(start), Position.allNumbers(start)));
    }

    public int mend(int rule, int k) {
        if (!isRule(rule) || !isPlaceOfNumber(k)) return UNKNOWN;
        if (noPersons()) return STATE;
        if (!contains(mendingFound, rule)) {
            mending[rule] = findMending(rule);
            mendingFound |= 1 << rule;
        }
        return countOrPick(mending[rule], k);
    }

    public int nets(int n, int rule, int what) {
        if (!isRule(rule)) return UNKNOWN;
        if (n < 1 || n > LARGEST_SMALL_NET || what < 0 || what >= NET_ANSWERS) return OUTSIDE;
        int row = (n - 1) * RULES + rule;
        if (!contains(netsCounted, row)) {
            countNets(n, rule, NET_ANSWERS * row);
            netsCounted |= 1 << row;
        }
        return netCounts[NET_ANSWERS * row + what];
    }

    public int within(int rule, int other) {
        if (!isRule(rule) || !isRule(other)) return UNKNOWN;
        if (rule == TOKEN && other == HUB || rule == HUB && other == TOKEN) return OUTSIDE;
        if (noPersons()) return STATE;
        return truth(runs.areWithin(now, rule, other));
    }

    // ---- 5 sheets, parts

    public int sheet(int k, int lane, int n) {
        fault = 0;
        if (!isSheet(k)) return UNKNOWN;
        if (!isLane(lane) || n > MOST_CELLS) return OUTSIDE;
        if (n < 0) return faulted(SIZE);
        sheets[k] = new Sheet(lane, n);
        return 1;
    }

    public int lose(int k) {
        if (!isSheet(k)) return UNKNOWN;
        if (sheets[k] == null) return 0;
        sheets[k] = null;
        return 1;
    }

    public int put(int k, int i, int v) {
        fault = 0;
        if (!isSheet(k)) return UNKNOWN;
        Sheet row = sheets[k];
        if (row == null) return faulted(NULL);
        if (!row.has(i, 1)) return faulted(INDEX);
        row.set(i, v);
        return 1;
    }

    public long cell(int k, int i, int lane) {
        fault = 0;
        if (!isSheet(k) || !isLane(lane)) return LOST;
        Sheet row = sheets[k];
        fault = row == null ? NULL : row.lane != lane ? CAST : !row.has(i, 1) ? INDEX : 0;
        return row == null || fault != 0 ? LOST : row.at(i);
    }

    public int copy(int k, int i, int other, int j, int n) {
        fault = 0;
        if (!isSheet(k) || !isSheet(other)) return UNKNOWN;
        Sheet from = sheets[k];
        Sheet to = sheets[other];
        if (from == null || to == null) return faulted(NULL);
        if (from.lane != to.lane) return faulted(CAST);
        if (!from.has(i, n) || !to.has(j, n)) return faulted(INDEX);
        System.arraycopy(from.cells, i, to.cells, j, n);
        return n;
    }

    public int tell(int c) {
        Call one = callAt(c);
        return one == null ? UNKNOWN : one.telling(trace);
    }

    public int log(int c) {
        Call one = callAt(c);
        return one == null ? UNKNOWN : one.logged(trace);
    }

    public int as(int c, int kind) {
        fault = 0;
        Call one = callAt(c);
        if (one == null) return UNKNOWN;
        if (kind < 0 || kind >= KINDS) return OUTSIDE;
        // Each kind is also all the kinds below it, so their order decides.
        return one.kind() < kind ? faulted(CAST) : 1;
    }

    public int trace() {
        return trace.value;
    }

    public int fault() {
        return fault;
    }

    public int many(int what) {
        switch (what) {
            case 0: return Position.persons(now);
            case 1: return madeCount;
            case 2: return Position.experts(now);
            case 3: return Integer.bitCount(Position.allNumbers(start)) - Position.persons(start);
            default: return OUTSIDE;
        }
    }

    // ---- what the calls above share

    private boolean isSheet(int k) {
        return k >= 0 && k < SHEETS;
    }

    private boolean isLane(int lane) {
        return lane >= 0 && lane < LANES;
    }

    private boolean isRule(int rule) {
        return rule >= 0 && rule < RULES;
    }

    private boolean isPerson(int p) {
        return p >= 0 && p < Position.persons(now);
    }

    private boolean isEither(int what) {
        return what == 0 || what == 1;
    }

    private boolean isPlaceOfNumber(int k) {
        return k >= -1 && k < MOST_OTHER_NUMBERS;
    }

    private boolean noPersons() {
        return Position.persons(now) == 0;
    }

    private Call callAt(int c) {
        return c >= 0 && c < madeCount && c < MOST_CALLS ? made[c] : null;
    }

    private int faulted(int which) {
        fault = which;
        return FAULT_BASE - which;
    }

    private void begin(long position) {
        start = position;
        madeCount = 0;
        mendingFound = 0;
        moveTo(position);
    }

    private void moveTo(long position) {
        now = position;
        alike.forget();
    }

    private Call newCall(int number, int p, int q) {
        long after = Position.ring(now, p, q);
        if (Position.secretsOf(now, p) == Position.secretsOf(now, q)) {
            return new Call(number, p, q, now, after);
        }
        // Somebody learns here, so that not both can have had all ahead of it.
        return Position.isExpert(after, p)
            ? new Whole(number, p, q, now, after)
            : new News(number, p, q, now, after);
    }

    private int surelyHad(int p, int q) {
        return Position.partOf(alike.sureSecretsFor(p, start, made, madeCount), q);
    }

    private int findMending(int rule) {
        int persons = Position.persons(start);
        int numbers = Position.allNumbers(start);
        int found = 0;
        for (int p = 0; p < persons; p++) {
            for (int q = 0; q < persons; q++) {
                int number = 1 << pairOf(p, q);
                if ((numbers & number) != 0) continue;
                if (runs.judge(Position.first(persons, numbers | number), rule) == SURE) found |= number;
            }
        }
        return found;
    }

    private void countNets(int n, int rule, int at) {
        int choices = 1 << n * (n - 1);
        for (int chosen = 0; chosen < choices; chosen++) {
            int numbers = Net.chosen(n, chosen);
            if (!Net.isJoined(n, numbers)) continue;
            netCounts[at + JOINED]++;
            netCounts[at + runs.judge(Position.first(n, numbers), rule)]++;
        }
    }

    private static int truth(boolean is) {
        return is ? 1 : 0;
    }

    private static boolean contains(int set, int member) {
        return (set >> member & 1) == 1;
    }

    /** Two persons as one number, so that sets of NUMBERS fit an int and keep the document's order. */
    private static int pairOf(int p, int q) {
        return MOST_PERSONS * p + q;
    }

    private static int ringerOf(int pair) {
        return pair >> 2;
    }

    private static int rungOf(int pair) {
        return pair & 3;
    }

    private static int countOrPick(int pairs, int k) {
        if (k == -1) return Integer.bitCount(pairs);
        int ahead = 0;
        for (int pair = 0; pair < MOST_PERSONS * MOST_PERSONS; pair++) {
            if (!contains(pairs, pair)) continue;
            if (ahead == k) return 10 * ringerOf(pair) + rungOf(pair);
            ahead++;
        }
        return NONE;
    }

    /**
     * Who has what at one moment, packed into a long: looking ahead along all RUNS then makes no
     * objects, and a moment is its own key. Four bits a PERSON for SECRETS, then for NUMBERS, a
     * bit a PERSON for the TOKENS of RULE 2, of RULE 3, and above them how many PERSONS there are.
     */
    static final class Position {
        static final int NUMBERS_AT = 16, TOKENS_AT = 32, HUBS_AT = 36, PERSONS_AT = 40, END = 43;
        private static final long TOKENS = 15L << TOKENS_AT, HUBS = 15L << HUBS_AT;

        static long first(int persons, int numbers) {
            long position = (long) persons << PERSONS_AT | (long) numbers << NUMBERS_AT;
            for (int p = 0; p < persons; p++) {
                position |= 1L << pairOf(p, p) | 1L << (TOKENS_AT + p) | 1L << (HUBS_AT + p);
            }
            return position;
        }

        static int persons(long position) {
            return (int) (position >> PERSONS_AT);
        }

        static int allSecrets(long position) {
            return (int) position & 0xffff;
        }

        static int allNumbers(long position) {
            return (int) (position >> NUMBERS_AT) & 0xffff;
        }

        /** A PERSON's part of SECRETS or NUMBERS of all. */
        static int partOf(int all, int p) {
            return all >> MOST_PERSONS * p & 15;
        }

        static int secretsOf(long position, int p) {
            return (int) (position >> MOST_PERSONS * p) & 15;
        }

        static int numbersOf(long position, int p) {
            return (int) (position >> (NUMBERS_AT + MOST_PERSONS * p)) & 15;
        }

        static boolean hasToken(long position, int rule, int p) {
            int at = rule == TOKEN ? TOKENS_AT : HUBS_AT;
            return (position >> (at + p) & 1) == 1;
        }

        static int everySecret(long position) {
            return (1 << persons(position)) - 1;
        }

        static boolean isExpert(long position, int p) {
            return secretsOf(position, p) == everySecret(position);
        }

        static int experts(long position) {
            int persons = persons(position);
            int count = 0;
            for (int p = 0; p < persons; p++) {
                if (isExpert(position, p)) count++;
            }
            return count;
        }

        static boolean allAreExperts(long position) {
            int persons = persons(position);
            return Integer.bitCount(allSecrets(position)) == persons * persons;
        }

        static int whomMay(long position, int rule, int p) {
            if ((rule == TOKEN || rule == HUB) && !hasToken(position, rule, p)) return 0;
            int secrets = secretsOf(position, p);
            int others = numbersOf(position, p) & ~(1 << p);
            if (rule == NEW) return others & ~secrets;
            int persons = persons(position);
            int whom = 0;
            for (int q = 0; q < persons; q++) {
                if (contains(others, q) && secretsOf(position, q) != secrets) whom |= 1 << q;
            }
            return whom;
        }

        static long ring(long position, int p, int q) {
            long secrets = secretsOf(position, p) | secretsOf(position, q);
            long numbers = numbersOf(position, p) | numbersOf(position, q);
            long told = secrets | numbers << NUMBERS_AT;
            long gained = told << MOST_PERSONS * p | told << MOST_PERSONS * q | 1L << (TOKENS_AT + q);
            long lost = 1L << (TOKENS_AT + p) | 1L << (HUBS_AT + q);
            return (position | gained) & ~lost;
        }

        /** TOKENS that no RULE asked about looks at are left out: they would only multiply keys. */
        static long keyFor(long position, int rule, int other) {
            long key = position;
            if (rule != TOKEN && other != TOKEN) key &= ~TOKENS;
            if (rule != HUB && other != HUB) key &= ~HUBS;
            return key | (long) pairOf(rule, other) << END;
        }
    }

    /**
     * A table of keys (none is 0), made once. No question puts in more than some 1600 keys, a
     * NET's positions being no more; a table that a question finds CROWDED starts anew, so that
     * there is always room.
     */
    static final class Table {
        static final int BITS = 13, SLOTS = 1 << BITS, CROWDED = SLOTS - 2048;
        private static final long SPREAD = 0x9E3779B97F4A7C15L;
        private final long[] keys = new long[SLOTS];
        private int used;

        void makeRoom() {
            if (used <= CROWDED) return;
            Arrays.fill(keys, 0L);
            used = 0;
        }

        /** The slot that has the key, or -1. */
        int find(long key) {
            int slot = slotFor(key);
            return slot >= 0 && keys[slot] == key ? slot : -1;
        }

        /** The slot that has the key from now on; -1, were there no room. */
        int take(long key) {
            int slot = slotFor(key);
            if (slot >= 0 && keys[slot] == 0) {
                keys[slot] = key;
                used++;
            }
            return slot;
        }

        private int slotFor(long key) {
            int home = (int) (key * SPREAD >>> (64 - BITS));
            for (int step = 0; step < SLOTS; step++) {
                int slot = (home + step) & (SLOTS - 1);
                if (keys[slot] == key || keys[slot] == 0) return slot;
            }
            return -1;
        }
    }

    /** All RUNS of a RULE from a position on, looked at once a position. */
    static final class Runs {
        private final Table counted = new Table();
        private final long[] all = new long[Table.SLOTS];
        private final long[] good = new long[Table.SLOTS];
        private final byte[] fewest = new byte[Table.SLOTS];
        private final byte[] most = new byte[Table.SLOTS];
        /** Positions from which on a RULE is within another one. */
        private final Table included = new Table();

        long all(long position, int rule) {
            int slot = count(position, rule, 0);
            return slot < 0 ? 0 : all[slot];
        }

        long good(long position, int rule) {
            int slot = count(position, rule, 0);
            return slot < 0 ? 0 : good[slot];
        }

        int fewest(long position, int rule) {
            int slot = count(position, rule, 0);
            return slot < 0 || good[slot] == 0 ? NONE : fewest[slot];
        }

        int most(long position, int rule) {
            int slot = count(position, rule, 0);
            return slot < 0 || good[slot] == 0 ? NONE : most[slot];
        }

        int judge(long position, int rule) {
            int slot = count(position, rule, 0);
            if (slot < 0 || good[slot] == 0) return NEITHER;
            return good[slot] == all[slot] ? SURE : MAYBE;
        }

        int bestPair(long position, int rule) {
            int left = fewest(position, rule);
            if (left == NONE || left == 0) return NONE;
            int persons = Position.persons(position);
            for (int p = 0; p < persons; p++) {
                int whom = Position.whomMay(position, rule, p);
                for (int q = 0; q < persons; q++) {
                    if (!contains(whom, q)) continue;
                    if (fewest(Position.ring(position, p, q), rule) == left - 1) return pairOf(p, q);
                }
            }
            return NONE;
        }

        boolean areWithin(long position, int rule, int other) {
            return include(position, rule, other, 0);
        }

        private int count(long position, int rule, int depth) {
            if (depth == 0) counted.makeRoom();
            long key = Position.keyFor(position, rule, rule);
            int slot = counted.find(key);
            if (slot >= 0 || depth > LONGEST_RUN) return slot;
            long allHere = 0;
            long goodHere = 0;
            int fewestHere = LONGEST_RUN;
            int mostHere = 0;
            int persons = Position.persons(position);
            for (int p = 0; p < persons; p++) {
                int whom = Position.whomMay(position, rule, p);
                for (int q = 0; q < persons; q++) {
                    if (!contains(whom, q)) continue;
                    int next = count(Position.ring(position, p, q), rule, depth + 1);
                    if (next < 0) continue;
                    allHere += all[next];
                    goodHere += good[next];
                    if (good[next] == 0) continue;
                    fewestHere = Math.min(fewestHere, fewest[next] + 1);
                    mostHere = Math.max(mostHere, most[next] + 1);
                }
            }
            if (allHere > 0) return keep(key, allHere, goodHere, fewestHere, mostHere);
            return keep(key, 1, truth(Position.allAreExperts(position)), 0, 0);
        }

        private int keep(long key, long allHere, long goodHere, int fewestHere, int mostHere) {
            int slot = counted.take(key);
            if (slot < 0) return slot;
            all[slot] = allHere;
            good[slot] = goodHere;
            fewest[slot] = (byte) fewestHere;
            most[slot] = (byte) mostHere;
            return slot;
        }

        private boolean include(long position, int rule, int other, int depth) {
            if (depth == 0) included.makeRoom();
            long key = Position.keyFor(position, rule, other);
            if (depth > LONGEST_RUN || included.find(key) >= 0) return true;
            int persons = Position.persons(position);
            for (int p = 0; p < persons; p++) {
                int whom = Position.whomMay(position, rule, p);
                if ((whom & ~Position.whomMay(position, other, p)) != 0) return false;
                for (int q = 0; q < persons; q++) {
                    if (!contains(whom, q)) continue;
                    if (!include(Position.ring(position, p, q), rule, other, depth + 1)) return false;
                }
            }
            included.take(key);
            return true;
        }
    }

    /** The rows of CALLS that a PERSON can't tell from those that were. */
    static final class Alike {
        private static final int EVERYTHING = 0xffff;
        private final int[] rows = new int[MOST_PERSONS];
        /** SECRETS that each PERSON has behind all of the rows, as a position packs them. */
        private final int[] sureSecrets = new int[MOST_PERSONS];
        private int found;
        private final int[] sights = new int[MOST_CALLS_SEEN];
        private int sightCount;

        void forget() {
            found = 0;
        }

        int rowsFor(int person, long start, Call[] made, int count) {
            find(person, start, made, count);
            return rows[person];
        }

        int sureSecretsFor(int person, long start, Call[] made, int count) {
            find(person, start, made, count);
            return sureSecrets[person];
        }

        private void find(int person, long start, Call[] made, int count) {
            if (contains(found, person)) return;
            sightCount = Math.min(count, MOST_CALLS_SEEN);
            for (int c = 0; c < sightCount; c++) {
                Call call = made[c];
                sights[c] = call == null ? 0 : sight(person, call.ringer, call.rung, call.after);
            }
            rows[person] = 0;
            sureSecrets[person] = EVERYTHING;
            follow(person, start, 0);
            found |= 1 << person;
        }

        private void follow(int person, long position, int depth) {
            if (depth >= sightCount || depth >= MOST_CALLS_SEEN) {
                rows[person]++;
                sureSecrets[person] &= Position.allSecrets(position);
                return;
            }
            int persons = Position.persons(position);
            for (int p = 0; p < persons; p++) {
                int whom = Position.numbersOf(position, p) & ~(1 << p);
                for (int q = 0; q < persons; q++) {
                    if (!contains(whom, q)) continue;
                    long after = Position.ring(position, p, q);
                    if (sight(person, p, q, after) == sights[depth]) follow(person, after, depth + 1);
                }
            }
        }

        /** What a PERSON sees of a CALL, as a number: 0 if it was not in it, as it has SECRETS else. */
        private static int sight(int person, int ringer, int rung, long after) {
            if (person != ringer && person != rung) return 0;
            return Position.secretsOf(after, person) << 4 | pairOf(ringer, rung);
        }
    }

    /** What is so of a NET by itself; NUMBERS are sets of pairs, each PERSON's own among them. */
    static final class Net {
        /** A NET by which of all NUMBERS that there can be it has, as a set. */
        static int chosen(int persons, int choices) {
            int numbers = 0;
            int choice = 0;
            for (int p = 0; p < persons; p++) {
                for (int q = 0; q < persons; q++) {
                    if (p == q || contains(choices, choice)) numbers |= 1 << pairOf(p, q);
                    if (p != q) choice++;
                }
            }
            return numbers;
        }

        static boolean isJoined(int persons, int numbers) {
            int bothWays = numbers;
            for (int p = 0; p < persons; p++) {
                for (int q = 0; q < persons; q++) {
                    if (contains(numbers, pairOf(p, q))) bothWays |= 1 << pairOf(q, p);
                }
            }
            return reach(persons, bothWays, 0) == (1 << persons) - 1;
        }

        static int bridges(int persons, int numbers) {
            int found = 0;
            for (int p = 0; p < persons; p++) {
                for (int q = 0; q < persons; q++) {
                    int number = 1 << pairOf(p, q);
                    if (p == q || (numbers & number) == 0) continue;
                    if (!isJoined(persons, numbers & ~number)) found |= number;
                }
            }
            return found;
        }

        static boolean isSun(int persons, int numbers) {
            int holders = 0;
            for (int p = 0; p < persons; p++) {
                if ((Position.partOf(numbers, p) & ~(1 << p)) != 0) holders |= 1 << p;
            }
            for (int p = 0; p < persons; p++) {
                if ((holders & ~reach(persons, numbers, p)) != 0) return false;
            }
            return true;
        }

        private static int reach(int persons, int numbers, int from) {
            int reached = 1 << from;
            for (int round = 0; round < persons; round++) {
                for (int p = 0; p < persons; p++) {
                    if (contains(reached, p)) reached |= Position.partOf(numbers, p);
                }
            }
            return reached;
        }
    }

    /** A TEXT as it is read: the PERSONS so far and their NUMBERS, as a set of pairs. */
    static final class NetText {
        int persons;
        int numbers;

        /** The place of the FIRST FAULT, -1 if there is none. */
        int read(Sheet row, int from, int length) {
            int wrong = firstBroken(row, from, length);
            return wrong >= 0 ? wrong : firstStranger(row, from, length);
        }

        private int firstBroken(Sheet row, int from, int length) {
            boolean itemIsDue = true;
            for (int place = 0; place < length; place++) {
                int code = row.at(from + place);
                if (itemIsDue) {
                    if (code != 'p') return place;
                    beginItem();
                    itemIsDue = false;
                } else if (code == ';') {
                    if (persons == MOST_PERSONS) return place;
                    itemIsDue = true;
                } else if (!takesNumber(code)) {
                    return place;
                }
            }
            return itemIsDue ? length : -1;
        }

        private void beginItem() {
            numbers |= 1 << pairOf(persons, persons);
            persons++;
        }

        private boolean takesNumber(int code) {
            if (!isDigit(code)) return false;
            int number = 1 << pairOf(persons - 1, code - '0');
            if ((numbers & number) != 0) return false;
            numbers |= number;
            return true;
        }

        private int firstStranger(Sheet row, int from, int length) {
            for (int place = 0; place < length; place++) {
                int code = row.at(from + place);
                if (isDigit(code) && code - '0' >= persons) return place;
            }
            return -1;
        }

        private static boolean isDigit(int code) {
            return code >= '0' && code < '0' + MOST_PERSONS;
        }
    }

    /** A row of cells of a LANE. */
    static final class Sheet {
        final int lane;
        final int[] cells;

        /** length is 0 .. 60, as sheet() has looked at. */
        Sheet(int lane, int length) {
            this.lane = lane;
            this.cells = new int[length];
        }

        boolean has(int from, int count) {
            return from >= 0 && count >= 0 && from <= cells.length - count;
        }

        int at(int i) {
            return has(i, 1) ? cells[i] : 0;
        }

        void set(int i, int v) {
            if (has(i, 1)) cells[i] = cut(v);
        }

        private int cut(int v) {
            return lane == 0 ? (byte) v : lane == 1 ? (short) v : v;
        }
    }

    /** What bodies left behind as they began. */
    static final class Trace {
        int value;

        void leave(int body) {
            value = 31 * value + body;
        }
    }

    static class Call {
        final int number;
        final int ringer;
        final int rung;
        final long before;
        final long after;

        Call(int number, int ringer, int rung, long before, long after) {
            this.number = number;
            this.ringer = ringer;
            this.rung = rung;
            this.before = before;
            this.after = after;
        }

        int kind() {
            return 0;
        }

        final int learntBy(int p) {
            return Position.secretsOf(after, p) & ~Position.secretsOf(before, p);
        }

        int telling(Trace trace) {
            return plainTelling(trace);
        }

        /** A name of its own, so that a WHOLE one can come to it past NEWS's body. */
        final int plainTelling(Trace trace) {
            trace.leave(1);
            return 10 * ringer + rung;
        }

        int logged(Trace trace) {
            trace.leave(4);
            return number;
        }
    }

    static class News extends Call {
        News(int number, int ringer, int rung, long before, long after) {
            super(number, ringer, rung, before, after);
        }

        @Override
        int kind() {
            return 1;
        }

        @Override
        int telling(Trace trace) {
            trace.leave(2);
            int learnt = Integer.bitCount(learntBy(ringer)) + Integer.bitCount(learntBy(rung));
            return plainTelling(trace) + 100 * learnt;
        }
    }

    static final class Whole extends News {
        Whole(int number, int ringer, int rung, long before, long after) {
            super(number, ringer, rung, before, after);
        }

        @Override
        int kind() {
            return 2;
        }

        @Override
        int telling(Trace trace) {
            trace.leave(3);
            int asNews = super.telling(trace);
            return asNews + plainTelling(trace);
        }

        @Override
        int logged(Trace trace) {
            trace.leave(5);
            return 70;
        }
    }
}
