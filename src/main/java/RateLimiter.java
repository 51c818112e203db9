/**
 * A hierarchical rate limiter: a tree of token buckets with guaranteed rates, ceilings, burst credits and
 * borrowing, with queues of requests at its leaves. The numbered promises stand in the project's document.
 */
public final class RateLimiter {
    public static final int INVALID = -1;
    public static final int NONE = -2;

    private static final int MOST_BYTES = 900;
    private static final int MOST_NODES = 12;
    private static final int MOST_CHANGES = 12;
    private static final int MOST_LETTERS = 8;
    private static final int MOST_DIGITS = 4;
    private static final int QUEUE_SIZE = 16;
    private static final int LOG_SIZE = 24;
    private static final int GREATEST_COST = 99;
    private static final int GREATEST_CEILING = 999;
    private static final int GREATEST_BURST = 999;
    private static final int GREATEST_LIMIT = 99;
    private static final int GREATEST_AGE = 999;
    private static final int GREATEST_TIME = 5000;
    private static final int MOST_TICKS = 500;
    private static final int LONGEST_WAIT = 1000;
    private static final int DEFAULT_LIMIT = 10;
    private static final int NO_AGE = -1;

    // The words in quotes. The settings with a number come first, in the order in which the setup text names them.
    private static final int RATE = 0;
    private static final int CEILING = 1;
    private static final int BURST = 2;
    private static final int CREDIT = 3;
    private static final int WEIGHT = 4;
    private static final int PRIORITY = 5;
    private static final int ALONE = 6;
    private static final int NODE = 7;
    private static final int IN = 8;
    private static final int LIMIT = 9;
    private static final int AGE = 10;
    private static final int AT = 11;
    private static final int KEYWORDS = 12;
    private static final int NUMBER_SETTINGS = 6;
    private static final int NO_KEYWORD = -1;

    // By setting, RATE to PRIORITY.
    private static final int[] LEAST = {0, 0, 1, 0, 1, 0};
    private static final int[] GREATEST = {99, 999, 999, 999, 9, 7};
    private static final int[] DEFAULTS = {1, 1, 10, 0, 1, 0};

    private final Text text = new Text();
    private final Reader reader = new Reader();
    private final Writer writer = new Writer();
    private Setup setup = new Setup();
    private final State state = new State();
    private final State thought = new State();
    private final State firstSnapshot = new State();
    private final State secondSnapshot = new State();

    public RateLimiter() {
    }

    // ---- setup

    public int feed(int a, int b, int c, int d, int e) {
        if (text.length + 20 > MOST_BYTES) {
            return INVALID;
        }
        text.append(a);
        text.append(b);
        text.append(c);
        text.append(d);
        text.append(e);
        return text.length;
    }

    public int truncate(int length) {
        if (length < 0 || length > text.length) {
            return INVALID;
        }
        text.length = length;
        return length;
    }

    public int load() {
        reader.read(text);
        text.length = 0;
        if (reader.faultCode != 0) {
            return INVALID;
        }
        Setup replaced = setup;
        setup = reader.draft;
        reader.draft = replaced;
        state.begin(setup);
        firstSnapshot.isStored = false;
        secondSnapshot.isStored = false;
        return setup.nodeCount;
    }

    public int faultCode() {
        return reader.faultCode;
    }

    public int faultPosition() {
        return reader.faultPosition;
    }

    // ---- the tree

    public int nodeCount() {
        return setup.nodeCount;
    }

    public int nameLetter(int node, int i) {
        return setup.hasNode(node) && i >= 0 ? letterOf(setup.name[node], i) : INVALID;
    }

    public int parent(int node) {
        return setup.hasNode(node) ? setup.parent[node] : INVALID;
    }

    public int child(int node, int k) {
        return setup.hasNode(node) && k >= 0 ? setup.childOf(node, k) : INVALID;
    }

    public boolean isLeaf(int node) {
        return setup.hasLeaf(node);
    }

    public int depth(int node) {
        return setup.hasNode(node) ? setup.depth[node] : INVALID;
    }

    public int rate(int node) {
        return setup.hasNode(node) ? state.rate[node] : INVALID;
    }

    public int ceiling(int node) {
        return setup.hasNode(node) ? state.ceiling[node] : INVALID;
    }

    public int burst(int node) {
        return setup.hasNode(node) ? setup.burst[node] : INVALID;
    }

    public int creditLimit(int node) {
        return setup.hasNode(node) ? setup.creditLimit[node] : INVALID;
    }

    public int weight(int node) {
        return setup.hasNode(node) ? state.weight[node] : INVALID;
    }

    public int priority(int node) {
        return setup.hasNode(node) ? setup.priority[node] : INVALID;
    }

    public boolean mayBorrow(int node) {
        return setup.hasNode(node) && !setup.alone[node];
    }

    public boolean isOversubscribed(int node) {
        return setup.hasNode(node) && state.childrenRate(setup, node) > state.rate[node];
    }

    public int pathCeiling(int node) {
        return setup.hasNode(node) ? state.leastCeiling(setup, node) : INVALID;
    }

    // ---- accounts

    public int time() {
        return state.time;
    }

    public int tokens(int node) {
        return setup.hasNode(node) ? state.accounts.tokens[node] : INVALID;
    }

    public int credit(int node) {
        return setup.hasNode(node) ? state.accounts.credit[node] : INVALID;
    }

    public int headroom(int node) {
        return setup.hasNode(node) ? state.accounts.headroom[node] : INVALID;
    }

    // ---- requests

    public int lender(int leaf, int cost) {
        return isRequest(leaf, cost) ? state.accounts.findLender(setup, leaf, cost) : INVALID;
    }

    public int greatestCost(int leaf) {
        if (!setup.hasLeaf(leaf)) {
            return INVALID;
        }
        for (int cost = GREATEST_COST; cost > 0; cost--) {
            if (state.accounts.findLender(setup, leaf, cost) != NONE) {
                return cost;
            }
        }
        return 0;
    }

    public int acquire(int leaf, int cost) {
        if (!isRequest(leaf, cost)) {
            return INVALID;
        }
        int lender = state.accounts.findLender(setup, leaf, cost);
        if (lender == NONE) {
            return NONE;
        }
        state.send(setup, leaf, lender, cost);
        return setup.distance(leaf, lender);
    }

    public int enqueue(int leaf, int cost) {
        return isRequest(leaf, cost) ? state.putInQueue(leaf, cost) : INVALID;
    }

    public int waitTime(int leaf, int cost) {
        return isRequest(leaf, cost) ? state.ticksUntilLender(setup, leaf, cost) : INVALID;
    }

    public int repeats(int leaf, int cost) {
        if (!isRequest(leaf, cost)) {
            return INVALID;
        }
        thought.accounts.copyFrom(state.accounts);
        return thought.accounts.payOften(setup, leaf, cost);
    }

    public int refusal(int leaf, int cost) {
        if (!isRequest(leaf, cost)) {
            return INVALID;
        }
        if (state.accounts.findBlocking(setup, leaf, cost) != NONE) {
            return 1;
        }
        return state.accounts.findLender(setup, leaf, cost) == NONE ? 2 : 0;
    }

    public int blockingNode(int leaf, int cost) {
        return isRequest(leaf, cost) ? state.accounts.findBlocking(setup, leaf, cost) : INVALID;
    }

    // ---- queues

    public int queueLength(int leaf) {
        return setup.hasLeaf(leaf) ? state.queues.length[leaf] : INVALID;
    }

    public int nextLeaf() {
        return state.chooseLeaf(setup);
    }

    public int queuedCost(int leaf) {
        return setup.hasLeaf(leaf) ? state.queues.costSum(leaf) : INVALID;
    }

    public int requestAt(int leaf, int place) {
        int entry = queueEntry(leaf, place);
        return entry < 0 ? entry : state.queues.number[entry];
    }

    public int costAt(int leaf, int place) {
        int entry = queueEntry(leaf, place);
        return entry < 0 ? entry : state.queues.cost[entry];
    }

    public int ageAt(int leaf, int place) {
        int entry = queueEntry(leaf, place);
        return entry < 0 ? entry : state.time - state.queues.since[entry];
    }

    public int advance(int ticks) {
        return canAdvance(ticks) ? state.makeTicks(setup, ticks) : INVALID;
    }

    public int forecast(int leaf, int ticks) {
        if (!setup.hasLeaf(leaf) || !canAdvance(ticks)) {
            return INVALID;
        }
        thought.copyFrom(state);
        thought.makeTicks(setup, ticks);
        return thought.counts.sentCount[leaf] - state.counts.sentCount[leaf];
    }

    public int drainTime(int leaf) {
        if (!setup.hasLeaf(leaf)) {
            return INVALID;
        }
        thought.copyFrom(state);
        int most = Math.min(MOST_TICKS, GREATEST_TIME - state.time);
        for (int ticks = 0; ticks < most; ticks++) {
            if (thought.queues.length[leaf] == 0) {
                return ticks;
            }
            thought.makeTick(setup);
        }
        return thought.queues.length[leaf] == 0 ? most : NONE;
    }

    // ---- what was counted

    public int sentCost(int leaf) {
        return setup.hasLeaf(leaf) ? state.counts.sentCost[leaf] : INVALID;
    }

    public int sentCount(int leaf) {
        return setup.hasLeaf(leaf) ? state.counts.sentCount[leaf] : INVALID;
    }

    public int borrowedCost(int leaf) {
        return setup.hasLeaf(leaf) ? state.counts.borrowedCost[leaf] : INVALID;
    }

    public int lentCost(int node) {
        return setup.hasNode(node) ? state.counts.lentCost[node] : INVALID;
    }

    public int droppedCount(int leaf) {
        return setup.hasLeaf(leaf) ? state.counts.droppedCount[leaf] : INVALID;
    }

    public int fairness() {
        if (setup.nodeCount == 0) {
            return INVALID;
        }
        long leaves = 0;
        long sum = 0;
        long squares = 0;
        for (int node = 0; node < setup.nodeCount; node++) {
            if (setup.hasLeaf(node)) {
                long x = quotient(10L * state.counts.sentCost[node], state.weight[node]);
                leaves++;
                sum += x;
                squares += x * x;
            }
        }
        return squares == 0 ? 1000 : (int) quotient(1000 * sum * sum, leaves * squares);
    }

    public int fairShare(int leaf) {
        if (!setup.hasLeaf(leaf)) {
            return INVALID;
        }
        long costs = 0;
        long weights = 0;
        for (int node = 0; node < setup.nodeCount; node++) {
            if (setup.hasLeaf(node)) {
                costs += state.counts.sentCost[node];
                weights += state.weight[node];
            }
        }
        return (int) quotient(costs * state.weight[leaf], weights);
    }

    public int mostServed() {
        int best = NONE;
        for (int node = 0; node < setup.nodeCount; node++) {
            if (setup.hasLeaf(node) && (best == NONE || state.compareServed(node, best) > 0)) {
                best = node;
            }
        }
        return best;
    }

    public int busiestCost(int width) {
        return width < 1 ? INVALID : state.log.greatestSum(width);
    }

    public int logCount() {
        return state.log.count;
    }

    public int loggedLeaf(int k) {
        int entry = logEntry(k);
        return entry < 0 ? entry : state.log.leaf[entry];
    }

    public int loggedCost(int k) {
        int entry = logEntry(k);
        return entry < 0 ? entry : state.log.cost[entry];
    }

    public int loggedLender(int k) {
        int entry = logEntry(k);
        return entry < 0 ? entry : state.log.lender[entry];
    }

    public int loggedTime(int k) {
        int entry = logEntry(k);
        return entry < 0 ? entry : state.log.time[entry];
    }

    public int recentCost(int ticks) {
        return ticks < 1 ? INVALID : state.log.sumSince(state.time, ticks);
    }

    // ---- the setup as text

    public int setupLength() {
        writer.write(setup, state, NONE);
        return writer.length;
    }

    public int setupByte(int i) {
        if (i < 0) {
            return INVALID;
        }
        writer.write(setup, state, i);
        return writer.found;
    }

    // ---- changes

    public int setRate(int node, int rate) {
        return change(node, RATE, rate);
    }

    public int setCeiling(int node, int ceiling) {
        return change(node, CEILING, ceiling);
    }

    public int setWeight(int node, int weight) {
        return change(node, WEIGHT, weight);
    }

    public int clearQueue(int leaf) {
        if (!setup.hasLeaf(leaf)) {
            return INVALID;
        }
        int removed = state.queues.length[leaf];
        state.queues.length[leaf] = 0;
        return removed;
    }

    public boolean save(int snapshot) {
        State kept = snapshotAt(snapshot);
        if (kept == null) {
            return false;
        }
        kept.copyFrom(state);
        kept.isStored = true;
        return true;
    }

    public boolean restore(int snapshot) {
        State kept = snapshotAt(snapshot);
        if (kept == null || !kept.isStored) {
            return false;
        }
        state.copyFrom(kept);
        return true;
    }

    // ---- what the methods above share

    private boolean isRequest(int leaf, int cost) {
        return setup.hasLeaf(leaf) && cost >= 1 && cost <= GREATEST_COST;
    }

    private boolean canAdvance(int ticks) {
        return setup.nodeCount > 0 && ticks >= 1 && ticks <= MOST_TICKS && state.time + ticks <= GREATEST_TIME;
    }

    /** The index of a queued request in the rows of the queues, or INVALID or NONE, which are negative. */
    private int queueEntry(int leaf, int place) {
        if (!setup.hasLeaf(leaf) || place < 0) {
            return INVALID;
        }
        return place < state.queues.length[leaf] ? leaf * QUEUE_SIZE + place : NONE;
    }

    private int logEntry(int k) {
        if (k < 0) {
            return INVALID;
        }
        return k < state.log.count ? k : NONE;
    }

    private int change(int node, int setting, int value) {
        if (!setup.hasNode(node) || !isInRange(setting, value)) {
            return INVALID;
        }
        int[] row = state.row(setting);
        int before = row[node];
        row[node] = value;
        return before;
    }

    private State snapshotAt(int snapshot) {
        switch (snapshot) {
            case 0: return firstSnapshot;
            case 1: return secondSnapshot;
            default: return null;
        }
    }

    private static boolean isInRange(int setting, int value) {
        return setting >= 0 && setting < NUMBER_SETTINGS && value >= LEAST[setting] && value <= GREATEST[setting];
    }

    private static long quotient(long dividend, long divisor) {
        return divisor == 0 ? 0 : dividend / divisor;
    }

    private static void copyRow(int[] from, int[] to) {
        System.arraycopy(from, 0, to, 0, Math.min(from.length, to.length));
    }

    private static void clearRow(int[] row) {
        for (int i = 0; i < row.length; i++) {
            row[i] = 0;
        }
    }

    private static String keywordText(int keyword) {
        switch (keyword) {
            case RATE: return "rate";
            case CEILING: return "ceiling";
            case BURST: return "burst";
            case CREDIT: return "credit";
            case WEIGHT: return "weight";
            case PRIORITY: return "priority";
            case ALONE: return "alone";
            case NODE: return "node";
            case IN: return "in";
            case LIMIT: return "limit";
            case AGE: return "age";
            case AT: return "at";
            default: return "";
        }
    }

    // A word is packed into a long, five bits a letter, its first letter in the highest place of eight: so equal
    // words are equal numbers, and the places behind a short word hold 0.

    private static long withLetter(long word, int place, int letter) {
        return place < MOST_LETTERS ? word | (long) (letter - 'a' + 1) << 5 * (MOST_LETTERS - 1 - place) : word;
    }

    private static int letterOf(long word, int place) {
        return place < MOST_LETTERS ? (int) (word >> 5 * (MOST_LETTERS - 1 - place)) & 31 : 0;
    }

    private static int keywordOf(long word) {
        for (int keyword = 0; keyword < KEYWORDS; keyword++) {
            String letters = keywordText(keyword);
            long packed = 0;
            for (int i = 0; i < letters.length(); i++) {
                packed = withLetter(packed, i, letters.charAt(i));
            }
            if (packed == word) {
                return keyword;
            }
        }
        return NO_KEYWORD;
    }

    /** The input buffer. */
    private static final class Text {
        final byte[] bytes = new byte[MOST_BYTES];
        int length;

        void append(int fourBytes) {
            for (int shift = 24; shift >= 0; shift -= 8) {
                if (length >= 0 && length < bytes.length) {
                    bytes[length] = (byte) (fourBytes >> shift);
                    length++;
                }
            }
        }

        /** Byte i; 0, which no token allows, if there is none. */
        int byteAt(int i) {
            return i >= 0 && i < length && i < bytes.length ? bytes[i] : 0;
        }
    }

    /** What a setup text tells and no call changes, with the rates, ceilings and weights as they are at time 0. */
    private static final class Setup {
        int nodeCount;
        final long[] name = new long[MOST_NODES];
        final int[] parent = new int[MOST_NODES];
        final int[] depth = new int[MOST_NODES];
        final int[] childCount = new int[MOST_NODES];
        final int[] rate = new int[MOST_NODES];
        final int[] ceiling = new int[MOST_NODES];
        final int[] burst = new int[MOST_NODES];
        final int[] creditLimit = new int[MOST_NODES];
        final int[] weight = new int[MOST_NODES];
        final int[] priority = new int[MOST_NODES];
        final boolean[] alone = new boolean[MOST_NODES];
        final Changes changes = new Changes();
        int limit = DEFAULT_LIMIT;
        int greatestAge = NO_AGE;

        void clear() {
            nodeCount = 0;
            changes.count = 0;
            limit = DEFAULT_LIMIT;
            greatestAge = NO_AGE;
        }

        boolean hasNode(int node) {
            return node >= 0 && node < nodeCount && node < MOST_NODES;
        }

        boolean hasLeaf(int node) {
            return hasNode(node) && childCount[node] == 0;
        }

        int findNode(long word) {
            for (int node = 0; node < nodeCount; node++) {
                if (name[node] == word) {
                    return node;
                }
            }
            return NONE;
        }

        void addNode(long word, int above) {
            if (nodeCount >= MOST_NODES) {
                return;
            }
            int node = nodeCount;
            nodeCount++;
            name[node] = word;
            parent[node] = above;
            depth[node] = 0;
            childCount[node] = 0;
            alone[node] = false;
            for (int setting = 0; setting < NUMBER_SETTINGS; setting++) {
                row(setting)[node] = DEFAULTS[setting];
            }
            if (above >= 0 && above < node) {
                depth[node] = depth[above] + 1;
                childCount[above]++;
            }
        }

        int[] row(int setting) {
            switch (setting) {
                case RATE: return rate;
                case CEILING: return ceiling;
                case BURST: return burst;
                case CREDIT: return creditLimit;
                case WEIGHT: return weight;
                default: return priority;
            }
        }

        int childOf(int node, int k) {
            int before = 0;
            for (int child = node + 1; child < nodeCount; child++) {
                if (parent[child] == node) {
                    if (before == k) {
                        return child;
                    }
                    before++;
                }
            }
            return NONE;
        }

        /** The steps from a node up to one on its path; NONE if there is no such node. */
        int distance(int node, int upper) {
            return hasNode(node) && hasNode(upper) ? depth[node] - depth[upper] : NONE;
        }
    }

    /** The timed changes of a setup, in the order of the text. */
    private static final class Changes {
        int count;
        final int[] time = new int[MOST_CHANGES];
        final int[] node = new int[MOST_CHANGES];
        final int[] setting = new int[MOST_CHANGES];
        final int[] value = new int[MOST_CHANGES];

        void add(int when, int where, int what, int becomes) {
            if (count >= MOST_CHANGES) {
                return;
            }
            time[count] = when;
            node[count] = where;
            setting[count] = what;
            value[count] = becomes;
            count++;
        }
    }

    /** Takes a text apart into tokens, one at each call of scan(). */
    private static final class Scanner {
        static final int END = 0;
        static final int WORD = 1;
        static final int NUMBER = 2;
        static final int SEMICOLON = 3;
        static final int BAD = 4;

        private int next;
        int kind;
        int start;
        long word;
        int keyword;
        int number;

        void begin() {
            next = 0;
        }

        void scan(Text text) {
            skipSpaces(text);
            start = next;
            keyword = NO_KEYWORD;
            int first = text.byteAt(next);
            if (next >= text.length) {
                kind = END;
            } else if (isLetter(first)) {
                scanWord(text);
            } else if (isDigit(first)) {
                scanNumber(text);
            } else {
                kind = first == ';' ? SEMICOLON : BAD;
                next++;
            }
        }

        private void skipSpaces(Text text) {
            while (next < text.length && (text.byteAt(next) == ' ' || text.byteAt(next) == '\n')) {
                next++;
            }
        }

        private void scanWord(Text text) {
            word = 0;
            while (next < text.length && isLetter(text.byteAt(next))) {
                word = withLetter(word, next - start, text.byteAt(next));
                next++;
            }
            kind = next - start <= MOST_LETTERS ? WORD : BAD;
            if (kind == WORD) {
                keyword = keywordOf(word);
            }
        }

        private void scanNumber(Text text) {
            number = 0;
            while (next < text.length && isDigit(text.byteAt(next))) {
                number = number * 10 + (text.byteAt(next) - '0');
                next++;
            }
            kind = next - start <= MOST_DIGITS ? NUMBER : BAD;
        }

        private static boolean isLetter(int sign) {
            return sign >= 'a' && sign <= 'z';
        }

        private static boolean isDigit(int sign) {
            return sign >= '0' && sign <= '9';
        }
    }

    /** Reads a setup text into a draft. It remembers what it expects next, so each token is judged on its own. */
    private static final class Reader {
        private static final int STATEMENT = 0;
        private static final int NODE_NAME = 1;
        private static final int IN_WORD = 2;
        private static final int PARENT_NAME = 3;
        private static final int SETTING = 4;
        private static final int SETTING_VALUE = 5;
        private static final int LIMIT_VALUE = 6;
        private static final int AGE_VALUE = 7;
        private static final int CHANGE_TIME = 8;
        private static final int CHANGE_NAME = 9;
        private static final int CHANGE_SETTING = 10;
        private static final int CHANGE_VALUE = 11;
        private static final int STATEMENT_END = 12;

        private static final int UNEXPECTED = 1;
        private static final int OUT_OF_RANGE = 2;
        private static final int WRONG_NAME = 3;
        private static final int REPEATED = 4;
        private static final int TOO_MANY = 5;

        int faultCode;
        int faultPosition = NONE;
        Setup draft = new Setup();

        private final Scanner token = new Scanner();
        private int expected;
        private boolean limitGiven;
        private long nodeName;
        private int settingsGiven;
        private int setting;
        private int changeTime;
        private int changeNode;

        void read(Text text) {
            begin();
            // Each token but the end takes a byte at least.
            for (int tokens = 0; tokens <= MOST_BYTES; tokens++) {
                token.scan(text);
                if (token.kind == Scanner.END && expected == STATEMENT) {
                    return;
                }
                faultCode = take();
                if (faultCode != 0) {
                    faultPosition = token.start;
                    return;
                }
            }
        }

        private void begin() {
            faultCode = 0;
            faultPosition = NONE;
            draft.clear();
            token.begin();
            expected = STATEMENT;
            limitGiven = false;
        }

        /** Takes the token and answers the code of its fault, or 0; so do the methods below. */
        private int take() {
            switch (expected) {
                case STATEMENT: return takeStatement();
                case NODE_NAME: return takeNodeName();
                case IN_WORD: return takeIn();
                case PARENT_NAME: return takeParentName();
                case SETTING: return takeSetting();
                case SETTING_VALUE: return takeSettingValue();
                case LIMIT_VALUE: return takeLimit();
                case AGE_VALUE: return takeAge();
                case CHANGE_TIME: return takeChangeTime();
                case CHANGE_NAME: return takeChangeName();
                case CHANGE_SETTING: return takeChangeSetting();
                case CHANGE_VALUE: return takeChangeValue();
                default: return takeStatementEnd();
            }
        }

        private int takeStatement() {
            switch (token.keyword) {
                case NODE:
                    expected = NODE_NAME;
                    return draft.nodeCount == MOST_NODES ? TOO_MANY : 0;
                case LIMIT:
                    expected = LIMIT_VALUE;
                    return limitGiven ? REPEATED : 0;
                case AGE:
                    expected = AGE_VALUE;
                    return draft.greatestAge != NO_AGE ? REPEATED : 0;
                case AT:
                    expected = CHANGE_TIME;
                    return draft.changes.count == MOST_CHANGES ? TOO_MANY : 0;
                default:
                    return UNEXPECTED;
            }
        }

        private boolean isName() {
            return token.kind == Scanner.WORD && token.keyword == NO_KEYWORD;
        }

        private int takeNodeName() {
            if (!isName()) {
                return UNEXPECTED;
            }
            if (draft.findNode(token.word) != NONE) {
                return WRONG_NAME;
            }
            nodeName = token.word;
            if (draft.nodeCount == 0) {
                addNode(NONE);
            } else {
                expected = IN_WORD;
            }
            return 0;
        }

        private int takeIn() {
            expected = PARENT_NAME;
            return token.keyword == IN ? 0 : UNEXPECTED;
        }

        private int takeParentName() {
            if (!isName()) {
                return UNEXPECTED;
            }
            int parentNode = draft.findNode(token.word);
            if (parentNode == NONE) {
                return WRONG_NAME;
            }
            addNode(parentNode);
            return 0;
        }

        private void addNode(int parentNode) {
            draft.addNode(nodeName, parentNode);
            settingsGiven = 0;
            expected = SETTING;
        }

        private int takeSetting() {
            if (token.kind == Scanner.SEMICOLON) {
                finishNode();
                return 0;
            }
            setting = token.keyword;
            if (setting < RATE || setting > ALONE) {
                return UNEXPECTED;
            }
            if ((settingsGiven >> setting & 1) == 1) {
                return REPEATED;
            }
            settingsGiven |= 1 << setting;
            int node = draft.nodeCount - 1;
            if (setting != ALONE) {
                expected = SETTING_VALUE;
            } else if (draft.hasNode(node)) {
                draft.alone[node] = true;
            }
            return 0;
        }

        /** The rate may stand behind other settings, so a ceiling that was left out is known only here. */
        private void finishNode() {
            int node = draft.nodeCount - 1;
            if (draft.hasNode(node) && (settingsGiven >> CEILING & 1) == 0) {
                draft.ceiling[node] = draft.rate[node];
            }
            expected = STATEMENT;
        }

        private int takeSettingValue() {
            int code = numberFault(setting);
            int node = draft.nodeCount - 1;
            if (code == 0 && draft.hasNode(node)) {
                draft.row(setting)[node] = token.number;
            }
            expected = SETTING;
            return code;
        }

        private int numberFault(int ofSetting) {
            if (token.kind != Scanner.NUMBER) {
                return UNEXPECTED;
            }
            return isInRange(ofSetting, token.number) ? 0 : OUT_OF_RANGE;
        }

        private int numberFault(int least, int greatest) {
            if (token.kind != Scanner.NUMBER) {
                return UNEXPECTED;
            }
            return token.number >= least && token.number <= greatest ? 0 : OUT_OF_RANGE;
        }

        private int takeLimit() {
            draft.limit = token.number;
            limitGiven = true;
            expected = STATEMENT_END;
            return numberFault(0, GREATEST_LIMIT);
        }

        private int takeAge() {
            draft.greatestAge = token.number;
            expected = STATEMENT_END;
            return numberFault(0, GREATEST_AGE);
        }

        private int takeChangeTime() {
            changeTime = token.number;
            expected = CHANGE_NAME;
            return numberFault(1, GREATEST_TIME);
        }

        private int takeChangeName() {
            if (!isName()) {
                return UNEXPECTED;
            }
            changeNode = draft.findNode(token.word);
            expected = CHANGE_SETTING;
            return changeNode == NONE ? WRONG_NAME : 0;
        }

        private int takeChangeSetting() {
            setting = token.keyword;
            expected = CHANGE_VALUE;
            return setting == RATE || setting == CEILING || setting == WEIGHT ? 0 : UNEXPECTED;
        }

        private int takeChangeValue() {
            int code = numberFault(setting);
            if (code == 0) {
                draft.changes.add(changeTime, changeNode, setting, token.number);
            }
            expected = STATEMENT_END;
            return code;
        }

        private int takeStatementEnd() {
            expected = STATEMENT;
            return token.kind == Scanner.SEMICOLON ? 0 : UNEXPECTED;
        }
    }

    /** Writes the setup text, of which it keeps the length and the one byte that was wanted. */
    private static final class Writer {
        int length;
        int found;
        private int wanted;
        private boolean needsSpace;

        void write(Setup setup, State state, int wantedByte) {
            wanted = wantedByte;
            found = NONE;
            length = 0;
            needsSpace = false;
            for (int node = 0; node < setup.nodeCount; node++) {
                writeNode(setup, state, node);
            }
            putKeyword(LIMIT);
            putNumber(setup.limit);
            putSemicolon();
            if (setup.greatestAge != NO_AGE) {
                putKeyword(AGE);
                putNumber(setup.greatestAge);
                putSemicolon();
            }
            for (int i = 0; i < setup.changes.count; i++) {
                if (setup.changes.time[i] > state.time) {
                    writeChange(setup, i);
                }
            }
        }

        private void writeNode(Setup setup, State state, int node) {
            putKeyword(NODE);
            putName(setup.name[node]);
            if (setup.hasNode(setup.parent[node])) {
                putKeyword(IN);
                putName(setup.name[setup.parent[node]]);
            }
            for (int setting = 0; setting < NUMBER_SETTINGS; setting++) {
                putKeyword(setting);
                putNumber(canChange(setting) ? state.row(setting)[node] : setup.row(setting)[node]);
            }
            if (setup.alone[node]) {
                putKeyword(ALONE);
            }
            putSemicolon();
        }

        private static boolean canChange(int setting) {
            return setting == RATE || setting == CEILING || setting == WEIGHT;
        }

        private void writeChange(Setup setup, int i) {
            putKeyword(AT);
            putNumber(setup.changes.time[i]);
            if (setup.hasNode(setup.changes.node[i])) {
                putName(setup.name[setup.changes.node[i]]);
            }
            putKeyword(setup.changes.setting[i]);
            putNumber(setup.changes.value[i]);
            putSemicolon();
        }

        private void putKeyword(int keyword) {
            putSpace();
            String letters = keywordText(keyword);
            for (int i = 0; i < letters.length(); i++) {
                put(letters.charAt(i));
            }
        }

        private void putName(long word) {
            putSpace();
            for (int i = 0; i < MOST_LETTERS && letterOf(word, i) > 0; i++) {
                put('a' + letterOf(word, i) - 1);
            }
        }

        private void putNumber(int number) {
            putSpace();
            for (int unit = 1000; unit > 0; unit /= 10) {
                if (number >= unit || unit == 1) {
                    put('0' + number / unit % 10);
                }
            }
        }

        private void putSemicolon() {
            put(';');
            needsSpace = false;
        }

        private void putSpace() {
            if (needsSpace) {
                put(' ');
            }
            needsSpace = true;
        }

        private void put(int sign) {
            if (length == wanted) {
                found = sign;
            }
            length++;
        }
    }

    /** Tokens, credit and headroom of all nodes. */
    private static final class Accounts {
        final int[] tokens = new int[MOST_NODES];
        final int[] credit = new int[MOST_NODES];
        final int[] headroom = new int[MOST_NODES];

        void begin(Setup setup) {
            copyRow(setup.burst, tokens);
            copyRow(setup.burst, headroom);
            clearRow(credit);
        }

        void copyFrom(Accounts other) {
            copyRow(other.tokens, tokens);
            copyRow(other.credit, credit);
            copyRow(other.headroom, headroom);
        }

        void refill(Setup setup, int node, int rate, int ceiling) {
            int sum = tokens[node] + rate;
            int excess = Math.max(0, sum - setup.burst[node]);
            tokens[node] = sum - excess;
            credit[node] = Math.min(setup.creditLimit[node], credit[node] + excess);
            headroom[node] = Math.min(setup.burst[node], headroom[node] + ceiling);
        }

        int findBlocking(Setup setup, int leaf, int cost) {
            int node = leaf;
            for (int step = 0; step < MOST_NODES && setup.hasNode(node); step++) {
                if (headroom[node] < cost) {
                    return node;
                }
                node = setup.parent[node];
            }
            return NONE;
        }

        int findLender(Setup setup, int leaf, int cost) {
            int lender = NONE;
            boolean mayAsk = true;
            int node = leaf;
            for (int step = 0; step < MOST_NODES && setup.hasNode(node); step++) {
                if (headroom[node] < cost) {
                    return NONE;
                }
                if (mayAsk && tokens[node] + credit[node] >= cost) {
                    lender = node;
                }
                mayAsk = mayAsk && lender == NONE && !setup.alone[node];
                node = setup.parent[node];
            }
            return lender;
        }

        void pay(Setup setup, int leaf, int lender, int cost) {
            boolean paid = false;
            int node = leaf;
            for (int step = 0; step < MOST_NODES && setup.hasNode(node); step++) {
                headroom[node] -= cost;
                if (paid || node == lender) {
                    int fromTokens = Math.min(tokens[node], cost);
                    tokens[node] -= fromTokens;
                    credit[node] -= paid ? 0 : cost - fromTokens;
                    paid = true;
                }
                node = setup.parent[node];
            }
        }

        /** Pays for requests of one cost as long as there is a lender, and answers how often. */
        int payOften(Setup setup, int leaf, int cost) {
            // The headroom is at most the burst, and each request takes 1 of it at least.
            for (int times = 0; times < GREATEST_BURST; times++) {
                int lender = findLender(setup, leaf, cost);
                if (lender == NONE) {
                    return times;
                }
                pay(setup, leaf, lender, cost);
            }
            return GREATEST_BURST;
        }
    }

    /** The queues of all leaves: the request at a place of a leaf's queue has the index leaf * QUEUE_SIZE + place. */
    private static final class Queues {
        final int[] length = new int[MOST_NODES];
        final int[] number = new int[MOST_NODES * QUEUE_SIZE];
        final int[] cost = new int[MOST_NODES * QUEUE_SIZE];
        final int[] since = new int[MOST_NODES * QUEUE_SIZE];
        private int nextNumber;

        void begin() {
            clearRow(length);
            nextNumber = 0;
        }

        void copyFrom(Queues other) {
            copyRow(other.length, length);
            copyRow(other.number, number);
            copyRow(other.cost, cost);
            copyRow(other.since, since);
            nextNumber = other.nextNumber;
        }

        boolean isFull(int leaf) {
            return length[leaf] >= QUEUE_SIZE;
        }

        int put(int leaf, int costs, int time) {
            int entry = leaf * QUEUE_SIZE + length[leaf];
            number[entry] = nextNumber;
            cost[entry] = costs;
            since[entry] = time;
            length[leaf]++;
            nextNumber++;
            return number[entry];
        }

        void removeFront(int leaf) {
            if (length[leaf] < 1) {
                return;
            }
            length[leaf]--;
            moveUp(number, leaf);
            moveUp(cost, leaf);
            moveUp(since, leaf);
        }

        private void moveUp(int[] row, int leaf) {
            int front = leaf * QUEUE_SIZE;
            System.arraycopy(row, front + 1, row, front, QUEUE_SIZE - 1);
        }

        int costSum(int leaf) {
            int sum = 0;
            for (int place = 0; place < length[leaf]; place++) {
                sum += cost[leaf * QUEUE_SIZE + place];
            }
            return sum;
        }
    }

    /** What was sent, borrowed, lent and dropped, by node. */
    private static final class Counts {
        final int[] sentCost = new int[MOST_NODES];
        final int[] sentCount = new int[MOST_NODES];
        final int[] borrowedCost = new int[MOST_NODES];
        final int[] lentCost = new int[MOST_NODES];
        final int[] droppedCount = new int[MOST_NODES];

        void begin() {
            clearRow(sentCost);
            clearRow(sentCount);
            clearRow(borrowedCost);
            clearRow(lentCost);
            clearRow(droppedCount);
        }

        void copyFrom(Counts other) {
            copyRow(other.sentCost, sentCost);
            copyRow(other.sentCount, sentCount);
            copyRow(other.borrowedCost, borrowedCost);
            copyRow(other.lentCost, lentCost);
            copyRow(other.droppedCount, droppedCount);
        }

        void countSent(int leaf, int lender, int cost) {
            sentCost[leaf] += cost;
            sentCount[leaf]++;
            if (lender != leaf) {
                borrowedCost[leaf] += cost;
                lentCost[lender] += cost;
            }
        }
    }

    /** The latest requests that were sent, the latest one first. */
    private static final class Log {
        int count;
        final int[] leaf = new int[LOG_SIZE];
        final int[] cost = new int[LOG_SIZE];
        final int[] lender = new int[LOG_SIZE];
        final int[] time = new int[LOG_SIZE];

        void copyFrom(Log other) {
            count = other.count;
            copyRow(other.leaf, leaf);
            copyRow(other.cost, cost);
            copyRow(other.lender, lender);
            copyRow(other.time, time);
        }

        void add(int whose, int costs, int lentBy, int when) {
            putFirst(leaf, whose);
            putFirst(cost, costs);
            putFirst(lender, lentBy);
            putFirst(time, when);
            count = Math.min(LOG_SIZE, count + 1);
        }

        private static void putFirst(int[] row, int value) {
            System.arraycopy(row, 0, row, 1, LOG_SIZE - 1);
            row[0] = value;
        }

        /** The costs of the requests sent at most so many ticks, less one, before a time, and not behind it. */
        int sumSince(int end, int ticks) {
            int sum = 0;
            for (int k = 0; k < count; k++) {
                int before = end - time[k];
                if (before >= 0 && before < ticks) {
                    sum += cost[k];
                }
            }
            return sum;
        }

        /** Some window with the greatest sum ends at the time of a request, so no other end is looked at. */
        int greatestSum(int width) {
            int greatest = 0;
            for (int k = 0; k < count; k++) {
                greatest = Math.max(greatest, sumSince(time[k], width));
            }
            return greatest;
        }
    }

    /** All that a snapshot stores; a State may be the present one or a snapshot. */
    private static final class State {
        boolean isStored;
        int time;
        final int[] rate = new int[MOST_NODES];
        final int[] ceiling = new int[MOST_NODES];
        final int[] weight = new int[MOST_NODES];
        final Accounts accounts = new Accounts();
        final Queues queues = new Queues();
        final Counts counts = new Counts();
        final Log log = new Log();

        void begin(Setup setup) {
            time = 0;
            copyRow(setup.rate, rate);
            copyRow(setup.ceiling, ceiling);
            copyRow(setup.weight, weight);
            accounts.begin(setup);
            queues.begin();
            counts.begin();
            log.count = 0;
        }

        void copyFrom(State other) {
            time = other.time;
            copyRow(other.rate, rate);
            copyRow(other.ceiling, ceiling);
            copyRow(other.weight, weight);
            accounts.copyFrom(other.accounts);
            queues.copyFrom(other.queues);
            counts.copyFrom(other.counts);
            log.copyFrom(other.log);
        }

        /** The row of a setting that can be changed. */
        int[] row(int setting) {
            switch (setting) {
                case RATE: return rate;
                case CEILING: return ceiling;
                default: return weight;
            }
        }

        int childrenRate(Setup setup, int node) {
            int sum = 0;
            for (int child = node + 1; child < setup.nodeCount; child++) {
                if (setup.parent[child] == node) {
                    sum += rate[child];
                }
            }
            return sum;
        }

        int leastCeiling(Setup setup, int from) {
            int least = GREATEST_CEILING;
            int node = from;
            for (int step = 0; step < MOST_NODES && setup.hasNode(node); step++) {
                least = Math.min(least, ceiling[node]);
                node = setup.parent[node];
            }
            return least;
        }

        void send(Setup setup, int leaf, int lender, int cost) {
            if (!setup.hasNode(leaf) || !setup.hasNode(lender)) {
                return;
            }
            accounts.pay(setup, leaf, lender, cost);
            counts.countSent(leaf, lender, cost);
            log.add(leaf, cost, lender, time);
        }

        int putInQueue(int leaf, int cost) {
            if (queues.isFull(leaf)) {
                counts.droppedCount[leaf]++;
                return NONE;
            }
            return queues.put(leaf, cost, time);
        }

        int ticksUntilLender(Setup setup, int leaf, int cost) {
            int untilHeadroom = 0;
            int untilPaid = LONGEST_WAIT + 1;
            boolean mayAsk = true;
            int node = leaf;
            for (int step = 0; step < MOST_NODES && setup.hasNode(node); step++) {
                int burst = setup.burst[node];
                int roomWait = ticksUntil(cost, accounts.headroom[node], ceiling[node], burst);
                untilHeadroom = Math.max(untilHeadroom, roomWait);
                if (mayAsk) {
                    int funds = accounts.tokens[node] + accounts.credit[node];
                    int fundsWait = ticksUntil(cost, funds, rate[node], burst + setup.creditLimit[node]);
                    untilPaid = Math.min(untilPaid, fundsWait);
                    mayAsk = !setup.alone[node];
                }
                node = setup.parent[node];
            }
            int wait = Math.max(untilHeadroom, untilPaid);
            return wait <= LONGEST_WAIT ? wait : NONE;
        }

        /** The ticks until an amount that grows by a step, up to its most, reaches the goal. */
        private static int ticksUntil(int goal, int amount, int step, int most) {
            if (amount >= goal) {
                return 0;
            }
            if (step < 1 || most < goal) {
                return LONGEST_WAIT + 1;
            }
            return (goal - amount + step - 1) / step;
        }

        int makeTicks(Setup setup, int ticks) {
            int sent = 0;
            for (int i = 0; i < ticks; i++) {
                sent += makeTick(setup);
            }
            return sent;
        }

        int makeTick(Setup setup) {
            time++;
            makeChanges(setup);
            for (int node = 0; node < setup.nodeCount; node++) {
                accounts.refill(setup, node, rate[node], ceiling[node]);
            }
            dropOld(setup);
            return dispatch(setup);
        }

        private void makeChanges(Setup setup) {
            Changes changes = setup.changes;
            for (int i = 0; i < changes.count; i++) {
                if (changes.time[i] == time && setup.hasNode(changes.node[i])) {
                    row(changes.setting[i])[changes.node[i]] = changes.value[i];
                }
            }
        }

        private void dropOld(Setup setup) {
            if (setup.greatestAge == NO_AGE) {
                return;
            }
            for (int leaf = 0; leaf < setup.nodeCount; leaf++) {
                // The oldest request stands at the front, so the first that is young enough ends the search.
                for (int i = 0; i < QUEUE_SIZE && isFrontOld(leaf, setup.greatestAge); i++) {
                    queues.removeFront(leaf);
                    counts.droppedCount[leaf]++;
                }
            }
        }

        private boolean isFrontOld(int leaf, int greatestAge) {
            return queues.length[leaf] > 0 && time - queues.since[leaf * QUEUE_SIZE] > greatestAge;
        }

        private int dispatch(Setup setup) {
            for (int sent = 0; sent < setup.limit; sent++) {
                int leaf = chooseLeaf(setup);
                if (leaf == NONE) {
                    return sent;
                }
                int cost = queues.cost[leaf * QUEUE_SIZE];
                send(setup, leaf, accounts.findLender(setup, leaf, cost), cost);
                queues.removeFront(leaf);
            }
            return setup.limit;
        }

        /** The leaf whose front request is sent next; NONE if there is none. */
        int chooseLeaf(Setup setup) {
            int best = NONE;
            int bestDistance = NONE;
            for (int leaf = 0; leaf < setup.nodeCount; leaf++) {
                int distance = frontDistance(setup, leaf);
                boolean isNearer = best == NONE || distance < bestDistance;
                if (distance != NONE && (isNearer || distance == bestDistance && precedes(setup, leaf, best))) {
                    best = leaf;
                    bestDistance = distance;
                }
            }
            return best;
        }

        /** The distance of a leaf and the lender for its front request; NONE if that can't be sent. */
        private int frontDistance(Setup setup, int leaf) {
            if (queues.length[leaf] == 0) {
                return NONE;
            }
            return setup.distance(leaf, accounts.findLender(setup, leaf, queues.cost[leaf * QUEUE_SIZE]));
        }

        private boolean precedes(Setup setup, int leaf, int other) {
            if (setup.priority[leaf] != setup.priority[other]) {
                return setup.priority[leaf] < setup.priority[other];
            }
            return compareServed(leaf, other) < 0;
        }

        /** Compares the quotients of sent cost and weight, multiplied crosswise so that they stay exact. */
        int compareServed(int leaf, int other) {
            long product = (long) counts.sentCost[leaf] * weight[other];
            long otherProduct = (long) counts.sentCost[other] * weight[leaf];
            return Long.compare(product, otherProduct);
        }
    }
}
