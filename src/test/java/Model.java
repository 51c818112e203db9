import java.util.ArrayList;
import java.util.Arrays;
import java.util.HashMap;
import java.util.HashSet;
import java.util.List;
import java.util.Map;
import java.util.Set;

/**
 * The document once more, written for plainness alone and another way than the program: nodes are objects, states
 * are copied whole, and whatever asks for times or numbers of requests is answered by trying.
 */
final class Model {
    static final int INVALID = -1;
    static final int NONE = -2;
    private static final Set<String> WORDS = new HashSet<>(Arrays.asList("node", "in", "limit", "age", "at", "rate",
            "ceiling", "weight", "burst", "credit", "priority", "alone"));

    static final class Request {
        final int number;
        final int cost;
        final int since;

        Request(int number, int cost, int since) {
            this.number = number;
            this.cost = cost;
            this.since = since;
        }
    }

    static final class Sent {
        final int leaf;
        final int cost;
        final int lender;
        final int time;

        Sent(int leaf, int cost, int lender, int time) {
            this.leaf = leaf;
            this.cost = cost;
            this.lender = lender;
            this.time = time;
        }
    }

    static final class Node implements Cloneable {
        String name;
        int parent = NONE;
        Map<String, Integer> settings = new HashMap<>();
        int tokens;
        int credit;
        int headroom;
        List<Request> queue = new ArrayList<>();
        int sentCost;
        int sentCount;
        int borrowed;
        int lent;
        int dropped;

        Node copy() {
            try {
                Node other = (Node) clone();
                other.settings = new HashMap<>(settings);
                other.queue = new ArrayList<>(queue);
                return other;
            } catch (CloneNotSupportedException e) {
                throw new IllegalStateException(e);
            }
        }

        int get(String setting) {
            return settings.get(setting);
        }
    }

    static final class Change {
        int time;
        int node;
        String setting;
        int value;
    }

    static final class Fault extends Exception {
        private static final long serialVersionUID = 1;
        final int code;
        final int position;

        Fault(int code, int position) {
            this.code = code;
            this.position = position;
        }
    }

    int faultCode = 0;
    int faultPosition = NONE;
    int limit = 10;
    int greatestAge = Integer.MAX_VALUE;
    List<Change> changes = new ArrayList<>();

    int time = 0;
    int nextNumber = 0;
    List<Node> nodes = new ArrayList<>();
    List<Sent> log = new ArrayList<>();
    private final Model[] snapshots = new Model[2];

    private void takeState(Model other) {
        time = other.time;
        nextNumber = other.nextNumber;
        nodes = new ArrayList<>();
        for (Node node : other.nodes) {
            nodes.add(node.copy());
        }
        log = new ArrayList<>(other.log);
    }

    private Model copy() {
        Model other = new Model();
        other.limit = limit;
        other.greatestAge = greatestAge;
        other.changes = changes;
        other.takeState(this);
        return other;
    }

    // ---- the setup text, read by descent

    private String text;
    private int at;
    private int start;
    private String token;

    private void next() throws Fault {
        while (at < text.length() && (text.charAt(at) == ' ' || text.charAt(at) == '\n')) {
            at++;
        }
        start = at;
        token = "";
        if (at == text.length()) {
            return;
        }
        String rest = text.substring(at);
        int letters = 0;
        while (letters < rest.length() && rest.charAt(letters) >= 'a' && rest.charAt(letters) <= 'z') {
            letters++;
        }
        int digits = 0;
        while (digits < rest.length() && rest.charAt(digits) >= '0' && rest.charAt(digits) <= '9') {
            digits++;
        }
        int length = rest.charAt(0) == ';' ? 1 : Math.max(letters, digits);
        if (length == 0 || letters > 8 || digits > 4) {
            throw new Fault(1, start);
        }
        token = rest.substring(0, length);
        at += length;
    }

    private void fault(int code) throws Fault {
        throw new Fault(code, start);
    }

    private int number(int least, int greatest) throws Fault {
        next();
        if (token.isEmpty() || !Character.isDigit(token.charAt(0))) {
            fault(1);
        }
        int value = Integer.parseInt(token);
        if (value < least || value > greatest) {
            fault(2);
        }
        return value;
    }

    private int settingValue(String setting) throws Fault {
        switch (setting) {
            case "rate": return number(0, 99);
            case "ceiling": case "credit": return number(0, 999);
            case "burst": return number(1, 999);
            case "weight": return number(1, 9);
            default: return number(0, 7);
        }
    }

    private String name() throws Fault {
        next();
        if (token.isEmpty() || !Character.isLetter(token.charAt(0)) || WORDS.contains(token)) {
            fault(1);
        }
        return token;
    }

    private int find(String name) {
        for (int i = 0; i < nodes.size(); i++) {
            if (nodes.get(i).name.equals(name)) {
                return i;
            }
        }
        return NONE;
    }

    private int earlierNode() throws Fault {
        int node = find(name());
        if (node == NONE) {
            fault(3);
        }
        return node;
    }

    private void expect(String wanted) throws Fault {
        next();
        if (!token.equals(wanted)) {
            fault(1);
        }
    }

    private void read(String setup) throws Fault {
        text = setup;
        at = 0;
        Set<String> given = new HashSet<>();
        for (next(); !token.isEmpty(); next()) {
            String word = token;
            if (word.equals("node")) {
                readNode();
            } else if (word.equals("limit") || word.equals("age")) {
                if (!given.add(word)) {
                    fault(4);
                }
                if (word.equals("limit")) {
                    limit = number(0, 99);
                } else {
                    greatestAge = number(0, 999);
                }
                expect(";");
            } else if (word.equals("at")) {
                readChange();
            } else {
                fault(1);
            }
        }
    }

    private void readNode() throws Fault {
        if (nodes.size() == 12) {
            fault(5);
        }
        Node node = new Node();
        node.name = name();
        if (find(node.name) != NONE) {
            fault(3);
        }
        if (!nodes.isEmpty()) {
            expect("in");
            node.parent = earlierNode();
        }
        nodes.add(node);
        for (next(); !token.equals(";"); next()) {
            String word = token;
            boolean isAlone = word.equals("alone");
            if (!isAlone && !Arrays.asList("rate", "ceiling", "burst", "credit", "weight", "priority").contains(word)) {
                fault(1);
            }
            if (node.settings.containsKey(word)) {
                fault(4);
            }
            node.settings.put(word, isAlone ? 1 : settingValue(word));
        }
        node.settings.putIfAbsent("rate", 1);
        node.settings.putIfAbsent("ceiling", node.get("rate"));
        node.settings.putIfAbsent("burst", 10);
        node.settings.putIfAbsent("credit", 0);
        node.settings.putIfAbsent("weight", 1);
        node.settings.putIfAbsent("priority", 0);
        node.settings.putIfAbsent("alone", 0);
        node.tokens = node.get("burst");
        node.headroom = node.get("burst");
    }

    private void readChange() throws Fault {
        if (changes.size() == 12) {
            fault(5);
        }
        Change change = new Change();
        change.time = number(1, 5000);
        change.node = earlierNode();
        next();
        if (!token.equals("rate") && !token.equals("ceiling") && !token.equals("weight")) {
            fault(1);
        }
        change.setting = token;
        change.value = settingValue(change.setting);
        expect(";");
        changes.add(change);
    }

    int load(String setup) {
        Model fresh = new Model();
        try {
            fresh.read(setup);
        } catch (Fault fault) {
            faultCode = fault.code;
            faultPosition = fault.position;
            return INVALID;
        }
        faultCode = 0;
        faultPosition = NONE;
        limit = fresh.limit;
        greatestAge = fresh.greatestAge;
        changes = fresh.changes;
        takeState(fresh);
        snapshots[0] = null;
        snapshots[1] = null;
        return nodes.size();
    }

    String setupText() {
        StringBuilder out = new StringBuilder();
        for (Node node : nodes) {
            out.append("node ").append(node.name);
            if (node.parent != NONE) {
                out.append(" in ").append(nodes.get(node.parent).name);
            }
            for (String setting : new String[] {"rate", "ceiling", "burst", "credit", "weight", "priority"}) {
                out.append(' ').append(setting).append(' ').append(node.get(setting));
            }
            out.append(node.get("alone") == 1 ? " alone;" : ";");
        }
        out.append("limit ").append(limit).append(';');
        if (greatestAge != Integer.MAX_VALUE) {
            out.append("age ").append(greatestAge).append(';');
        }
        for (Change change : changes) {
            if (change.time > time) {
                out.append("at ").append(change.time).append(' ').append(nodes.get(change.node).name).append(' ');
                out.append(change.setting).append(' ').append(change.value).append(';');
            }
        }
        return out.toString();
    }

    // ---- the tree

    boolean has(int node) {
        return node >= 0 && node < nodes.size();
    }

    List<Integer> children(int node) {
        List<Integer> children = new ArrayList<>();
        for (int i = 0; i < nodes.size(); i++) {
            if (nodes.get(i).parent == node) {
                children.add(i);
            }
        }
        return children;
    }

    boolean isLeaf(int node) {
        return has(node) && children(node).isEmpty();
    }

    List<Integer> leaves() {
        List<Integer> leaves = new ArrayList<>();
        for (int i = 0; i < nodes.size(); i++) {
            if (isLeaf(i)) {
                leaves.add(i);
            }
        }
        return leaves;
    }

    List<Integer> path(int node) {
        List<Integer> path = new ArrayList<>();
        for (int i = node; i != NONE; i = nodes.get(i).parent) {
            path.add(i);
        }
        return path;
    }

    int setting(int node, String setting) {
        return has(node) ? nodes.get(node).get(setting) : INVALID;
    }

    int letter(int node, int i) {
        if (!has(node) || i < 0) {
            return INVALID;
        }
        String name = nodes.get(node).name;
        return i < name.length() ? name.charAt(i) - 'a' + 1 : 0;
    }

    int child(int node, int k) {
        if (!has(node) || k < 0) {
            return INVALID;
        }
        return k < children(node).size() ? children(node).get(k) : NONE;
    }

    boolean isOversubscribed(int node) {
        int sum = 0;
        for (int child : children(node)) {
            sum += nodes.get(child).get("rate");
        }
        return has(node) && sum > nodes.get(node).get("rate");
    }

    int pathCeiling(int node) {
        int least = has(node) ? 9999 : INVALID;
        for (int i : has(node) ? path(node) : new ArrayList<Integer>()) {
            least = Math.min(least, nodes.get(i).get("ceiling"));
        }
        return least;
    }

    // ---- requests

    private boolean isRequest(int leaf, int cost) {
        return isLeaf(leaf) && cost > 0 && cost < 100;
    }

    int blockingNode(int leaf, int cost) {
        if (!isRequest(leaf, cost)) {
            return INVALID;
        }
        for (int node : path(leaf)) {
            if (nodes.get(node).headroom < cost) {
                return node;
            }
        }
        return NONE;
    }

    int lender(int leaf, int cost) {
        int blocking = blockingNode(leaf, cost);
        if (blocking != NONE) {
            return blocking == INVALID ? INVALID : NONE;
        }
        for (int i : path(leaf)) {
            Node node = nodes.get(i);
            if (node.tokens + node.credit >= cost) {
                return i;
            }
            if (i == 0 || node.get("alone") == 1) {
                return NONE;
            }
        }
        throw new IllegalStateException();
    }

    int greatestCost(int leaf) {
        int greatest = isLeaf(leaf) ? 0 : INVALID;
        for (int cost = 1; cost < 100 && isLeaf(leaf); cost++) {
            greatest = lender(leaf, cost) != NONE ? cost : greatest;
        }
        return greatest;
    }

    int acquire(int leaf, int cost) {
        int lender = lender(leaf, cost);
        if (lender < 0) {
            return lender;
        }
        List<Integer> path = path(leaf);
        int distance = path.indexOf(lender);
        for (int step = 0; step < path.size(); step++) {
            Node node = nodes.get(path.get(step));
            node.headroom -= cost;
            if (step > distance) {
                node.tokens = Math.max(node.tokens - cost, 0);
            }
        }
        Node payer = nodes.get(lender);
        payer.tokens -= cost;
        if (payer.tokens < 0) {
            payer.credit += payer.tokens;
            payer.tokens = 0;
        }
        nodes.get(leaf).sentCost += cost;
        nodes.get(leaf).sentCount++;
        if (distance > 0) {
            nodes.get(leaf).borrowed += cost;
            payer.lent += cost;
        }
        log.add(0, new Sent(leaf, cost, lender, time));
        if (log.size() > 24) {
            log.remove(24);
        }
        return distance;
    }

    int enqueue(int leaf, int cost) {
        if (!isRequest(leaf, cost)) {
            return INVALID;
        }
        Node node = nodes.get(leaf);
        if (node.queue.size() == 16) {
            node.dropped++;
            return NONE;
        }
        node.queue.add(new Request(nextNumber, cost, time));
        return nextNumber++;
    }

    private void refill() {
        for (Node node : nodes) {
            node.tokens += node.get("rate");
            if (node.tokens > node.get("burst")) {
                node.credit += node.tokens - node.get("burst");
                node.tokens = node.get("burst");
                if (node.credit > node.get("credit")) {
                    node.credit = node.get("credit");
                }
            }
            node.headroom += node.get("ceiling");
            if (node.headroom > node.get("burst")) {
                node.headroom = node.get("burst");
            }
        }
    }

    int waitTime(int leaf, int cost) {
        if (!isRequest(leaf, cost)) {
            return INVALID;
        }
        Model thought = copy();
        for (int ticks = 0; ticks <= 1000; ticks++) {
            if (thought.lender(leaf, cost) != NONE) {
                return ticks;
            }
            thought.refill();
        }
        return NONE;
    }

    int repeats(int leaf, int cost) {
        if (!isRequest(leaf, cost)) {
            return INVALID;
        }
        Model thought = copy();
        int count = 0;
        while (thought.acquire(leaf, cost) >= 0) {
            count++;
        }
        return count;
    }

    int refusal(int leaf, int cost) {
        if (!isRequest(leaf, cost)) {
            return INVALID;
        }
        return lender(leaf, cost) != NONE ? 0 : blockingNode(leaf, cost) != NONE ? 1 : 2;
    }

    // ---- queues

    Request request(int leaf, int place) {
        List<Request> queue = nodes.get(leaf).queue;
        return place >= 0 && place < queue.size() ? queue.get(place) : null;
    }

    /** What: 0 for the number of the request, 1 for its cost, 2 for its age. */
    int queued(int leaf, int place, int what) {
        if (!isLeaf(leaf) || place < 0) {
            return INVALID;
        }
        Request request = request(leaf, place);
        if (request == null) {
            return NONE;
        }
        return what == 0 ? request.number : what == 1 ? request.cost : time - request.since;
    }

    int queuedCost(int leaf) {
        int sum = isLeaf(leaf) ? 0 : INVALID;
        for (int i = 0; isLeaf(leaf) && i < nodes.get(leaf).queue.size(); i++) {
            sum += nodes.get(leaf).queue.get(i).cost;
        }
        return sum;
    }

    int nextLeaf() {
        List<Integer> able = new ArrayList<>();
        for (int leaf : leaves()) {
            if (!nodes.get(leaf).queue.isEmpty() && lender(leaf, request(leaf, 0).cost) != NONE) {
                able.add(leaf);
            }
        }
        able.sort((a, b) -> {
            int distanceA = path(a).indexOf(lender(a, request(a, 0).cost));
            int distanceB = path(b).indexOf(lender(b, request(b, 0).cost));
            if (distanceA != distanceB) {
                return distanceA - distanceB;
            }
            if (setting(a, "priority") != setting(b, "priority")) {
                return setting(a, "priority") - setting(b, "priority");
            }
            return served(a, b);
        });
        return able.isEmpty() ? NONE : able.get(0);
    }

    /** Compares quotients of sent cost and weight; 2520 is a multiple of each weight. */
    private int served(int a, int b) {
        int ofA = nodes.get(a).sentCost * (2520 / setting(a, "weight"));
        int ofB = nodes.get(b).sentCost * (2520 / setting(b, "weight"));
        return Integer.compare(ofA, ofB);
    }

    private int tick() {
        time++;
        for (Change change : changes) {
            if (change.time == time) {
                nodes.get(change.node).settings.put(change.setting, change.value);
            }
        }
        refill();
        for (Node node : nodes) {
            int before = node.queue.size();
            node.queue.removeIf(request -> time - request.since > greatestAge);
            node.dropped += before - node.queue.size();
        }
        int sent = 0;
        while (sent < limit && nextLeaf() != NONE) {
            int leaf = nextLeaf();
            acquire(leaf, nodes.get(leaf).queue.remove(0).cost);
            sent++;
        }
        return sent;
    }

    int advance(int ticks) {
        if (ticks < 1 || ticks > 500 || time > 5000 - ticks || nodes.isEmpty()) {
            return INVALID;
        }
        int sent = 0;
        for (int i = 0; i < ticks; i++) {
            sent += tick();
        }
        return sent;
    }

    int forecast(int leaf, int ticks) {
        Model thought = copy();
        if (!isLeaf(leaf) || thought.advance(ticks) == INVALID) {
            return INVALID;
        }
        return thought.nodes.get(leaf).sentCount - nodes.get(leaf).sentCount;
    }

    int drainTime(int leaf) {
        if (!isLeaf(leaf)) {
            return INVALID;
        }
        Model thought = copy();
        for (int ticks = 0; ticks <= 500; ticks++) {
            if (thought.nodes.get(leaf).queue.isEmpty()) {
                return ticks;
            }
            if (thought.advance(1) == INVALID) {
                return NONE;
            }
        }
        return NONE;
    }

    // ---- what was counted

    int fairness() {
        if (nodes.isEmpty()) {
            return INVALID;
        }
        long sum = 0;
        long squares = 0;
        for (int leaf : leaves()) {
            long x = nodes.get(leaf).sentCost * 10 / setting(leaf, "weight");
            sum += x;
            squares += x * x;
        }
        return sum == 0 ? 1000 : (int) (1000 * sum * sum / (leaves().size() * squares));
    }

    int fairShare(int leaf) {
        if (!isLeaf(leaf)) {
            return INVALID;
        }
        long costs = 0;
        long weights = 0;
        for (int other : leaves()) {
            costs += nodes.get(other).sentCost;
            weights += setting(other, "weight");
        }
        return (int) (costs * setting(leaf, "weight") / weights);
    }

    int mostServed() {
        List<Integer> leaves = leaves();
        leaves.sort((a, b) -> served(b, a));
        return leaves.isEmpty() ? NONE : leaves.get(0);
    }

    int busiestCost(int width) {
        if (width < 1) {
            return INVALID;
        }
        int greatest = 0;
        for (int from = 0; from <= time; from++) {
            int sum = 0;
            for (Sent sent : log) {
                sum += sent.time >= from && sent.time <= (long) from + width - 1 ? sent.cost : 0;
            }
            greatest = Math.max(greatest, sum);
        }
        return greatest;
    }

    int recentCost(int ticks) {
        int sum = 0;
        for (Sent sent : log) {
            sum += sent.time > (long) time - ticks ? sent.cost : 0;
        }
        return ticks < 1 ? INVALID : sum;
    }

    /** What: 0 for the leaf, 1 for the cost, 2 for the lender, 3 for the time. */
    int logged(int k, int what) {
        if (k < 0 || k >= log.size()) {
            return k < 0 ? INVALID : NONE;
        }
        Sent sent = log.get(k);
        return new int[] {sent.leaf, sent.cost, sent.lender, sent.time}[what];
    }

    // ---- changes

    int set(int node, String setting, int value) {
        int least = setting.equals("weight") ? 1 : 0;
        int greatest = setting.equals("weight") ? 9 : setting.equals("rate") ? 99 : 999;
        if (!has(node) || value < least || value > greatest) {
            return INVALID;
        }
        return nodes.get(node).settings.put(setting, value);
    }

    int clearQueue(int leaf) {
        if (!isLeaf(leaf)) {
            return INVALID;
        }
        int count = nodes.get(leaf).queue.size();
        nodes.get(leaf).queue.clear();
        return count;
    }

    boolean save(int snapshot) {
        if (snapshot != 0 && snapshot != 1) {
            return false;
        }
        snapshots[snapshot] = copy();
        return true;
    }

    boolean restore(int snapshot) {
        if (snapshot != 0 && snapshot != 1 || snapshots[snapshot] == null) {
            return false;
        }
        takeState(snapshots[snapshot]);
        return true;
    }
}
