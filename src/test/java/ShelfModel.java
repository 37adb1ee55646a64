import java.util.ArrayList;
import java.util.List;
import java.util.TreeMap;
import java.util.regex.Matcher;
import java.util.regex.Pattern;

/**
 * The document once more, written as slowly and as near to its words as can be: trees are never changed, sizes and
 * depths are always counted anew, and nothing is shared with the class that it is held against.
 */
final class ShelfModel {
    static final int NONE = -1, UNKNOWN = -101, OUTSIDE = -102, STATE = -103, FULL = -104;

    /** A tree that is never changed; null is the empty one. */
    record Node(Node left, int key, Node right) {
    }

    static int size(Node t) {
        return t == null ? 0 : size(t.left) + 1 + size(t.right);
    }

    static int tall(Node t) {
        return t == null ? -1 : 1 + Math.max(tall(t.left), tall(t.right));
    }

    static void inOrder(Node t, List<Integer> keys) {
        if (t != null) {
            inOrder(t.left, keys);
            keys.add(t.key);
            inOrder(t.right, keys);
        }
    }

    static Node flat(List<Integer> keys) {
        if (keys.isEmpty()) {
            return null;
        }
        int middle = keys.size() % 2 == 1 ? keys.size() / 2 : keys.size() / 2 - 1;
        return new Node(flat(keys.subList(0, middle)), keys.get(middle), flat(keys.subList(middle + 1, keys.size())));
    }

    static Node builtAnew(Node t) {
        List<Integer> keys = new ArrayList<>();
        inOrder(t, keys);
        return flat(keys);
    }

    static Node hung(Node t, int key) {
        if (t == null) {
            return new Node(null, key, null);
        }
        return key < t.key ? new Node(hung(t.left, key), t.key, t.right) : new Node(t.left, t.key, hung(t.right, key));
    }

    static int least(Node t) {
        return t.left == null ? t.key : least(t.left);
    }

    static Node without(Node t, int key) {
        if (key < t.key) {
            return new Node(without(t.left, key), t.key, t.right);
        }
        if (key > t.key) {
            return new Node(t.left, t.key, without(t.right, key));
        }
        if (t.left == null) {
            return t.right;
        }
        if (t.right == null) {
            return t.left;
        }
        int heir = least(t.right);
        return new Node(t.left, heir, without(t.right, heir));
    }

    static Node with(Node t, int key, Node part) {
        if (t.key == key) {
            return part;
        }
        return key < t.key ? new Node(with(t.left, key, part), t.key, t.right)
                : new Node(t.left, t.key, with(t.right, key, part));
    }

    /** All on the way down to a KEY that is there, from the top. */
    static List<Node> way(Node t, int key) {
        List<Node> way = new ArrayList<>();
        for (Node at = t; at != null; at = key < at.key ? at.left : at.right) {
            way.add(at);
            if (at.key == key) {
                return way;
            }
        }
        return way;
    }

    static int limit(int n, int a, int b) {
        if (n <= 1) {
            return 0;
        }
        int best = 0;
        for (int h = 1; h < 30; h++) {
            java.math.BigInteger all = java.math.BigInteger.valueOf(b).pow(h);
            java.math.BigInteger room = java.math.BigInteger.valueOf(a).pow(h).multiply(java.math.BigInteger.valueOf(n));
            if (all.compareTo(room) <= 0) {
                best = h;
            }
        }
        return best;
    }

    /** What grows and shrinks: the tree and what it has cost. */
    static final class Growth {
        int a, b, most, buildings, cost, lastBuilt;
        Node top;

        Growth(int a, int b) {
            this.a = a;
            this.b = b;
        }

        Growth copy() {
            Growth g = new Growth(a, b);
            g.most = most;
            g.buildings = buildings;
            g.cost = cost;
            g.top = top;
            return g;
        }

        boolean has(int key) {
            List<Integer> keys = new ArrayList<>();
            inOrder(top, keys);
            return keys.contains(key);
        }

        void put(int key) {
            top = hung(top, key);
            lastBuilt = 0;
            most = Math.max(most, size(top));
            List<Node> way = way(top, key);
            if (way.size() - 1 <= limit(size(top), a, b)) {
                return;
            }
            for (int i = way.size() - 1; i >= 0; i--) {
                Node at = way.get(i);
                if (b * size(at.left) > a * size(at) || b * size(at.right) > a * size(at)) {
                    top = with(top, at.key, builtAnew(at));
                    paid(size(at));
                    return;
                }
            }
            throw new IllegalStateException("too deep, and nothing too much on one side");
        }

        void take(int key) {
            top = without(top, key);
            lastBuilt = 0;
            if (top == null) {
                most = 0;
            } else if (b * size(top) < a * most) {
                buildAll();
                most = size(top);
            }
        }

        void buildAll() {
            lastBuilt = 0;
            if (top != null) {
                top = builtAnew(top);
                paid(size(top));
            }
        }

        void paid(int size) {
            lastBuilt = size;
            buildings++;
            cost += size;
        }
    }

    record Item(int kind, int value) {
    }

    record Sight(int key, int what, boolean could) {
    }

    /** A put (key) or a take (key) of the LOG. */
    record Done(boolean put, int key) {
    }

    /** All that an IMAGE keeps. */
    static final class State {
        Growth growth;
        int fee, credit, lowest;
        TreeMap<Integer, Item> items = new TreeMap<>();
        List<Done> log = new ArrayList<>();
        List<Sight> seen = new ArrayList<>();

        State copy() {
            State s = new State();
            s.growth = growth.copy();
            s.fee = fee;
            s.credit = credit;
            s.lowest = lowest;
            s.items.putAll(items);
            s.log.addAll(log);
            s.seen.addAll(seen);
            return s;
        }

        void pay(int built) {
            credit -= built;
            lowest = Math.min(lowest, credit);
        }

        void logged(Done done) {
            if (log.size() < 60) {
                log.add(done);
            }
        }

        int put(int kind, int key, int value) {
            boolean isNew = !items.containsKey(key);
            items.put(key, new Item(kind, value));
            if (!isNew) {
                return 0;
            }
            logged(new Done(true, key));
            credit += fee * (way(growth.top, key).size() + 1);
            growth.put(key);
            pay(growth.lastBuilt);
            return growth.lastBuilt;
        }

        void take(int key) {
            logged(new Done(false, key));
            credit += fee * way(growth.top, key).size();
            growth.take(key);
            pay(growth.lastBuilt);
            items.remove(key);
        }
    }

    private String page = "";
    private State now;
    private State kept;
    private int reads;

    int letter(int code) {
        if (code < 1 || code > 126) {
            return OUTSIDE;
        }
        if (page.length() + 1 > 54) {
            return FULL;
        }
        page += (char) code;
        return page.length();
    }

    int blank() {
        int had = page.length();
        page = "";
        return had;
    }

    private static final Pattern SHELF =
            Pattern.compile("(23|34|35|45);[1-9];([nlcfs][0-9][0-9]=[0-9](,[nlcfs][0-9][0-9]=[0-9]){0,7})?");

    private static boolean keysDiffer(String text) {
        List<String> keys = new ArrayList<>();
        for (int at = 5; at + 3 <= text.length(); at += 6) {
            String key = text.substring(at + 1, at + 3);
            if (keys.contains(key)) {
                return false;
            }
            keys.add(key);
        }
        return true;
    }

    private static boolean begins(String text) {
        Matcher m = SHELF.matcher(text);
        return (m.matches() || m.hitEnd()) && keysDiffer(text);
    }

    int fault() {
        for (int n = 1; n <= page.length(); n++) {
            if (!begins(page.substring(0, n))) {
                return n - 1;
            }
        }
        return page.length();
    }

    int shelf() {
        if (!SHELF.matcher(page).matches() || !keysDiffer(page)) {
            return STATE;
        }
        now = new State();
        now.growth = new Growth(page.charAt(0) - '0', page.charAt(1) - '0');
        now.fee = page.charAt(3) - '0';
        if (page.length() > 5) {
            for (String entry : page.substring(5).split(",")) {
                now.put("nlcfs".indexOf(entry.charAt(0)), Integer.parseInt(entry.substring(1, 3)), entry.charAt(4) - '0');
            }
        }
        page = "";
        kept = null;
        reads++;
        return now.items.size();
    }

    private boolean has(int key) {
        return now != null && now.items.containsKey(key);
    }

    int entry(int key, int what) {
        if (!has(key)) {
            return UNKNOWN;
        }
        List<Node> way = way(now.growth.top, key);
        Node own = way.get(way.size() - 1);
        return switch (what) {
            case 0 -> now.items.get(key).kind;
            case 1 -> now.items.get(key).value;
            case 2 -> way.size() - 1;
            case 3 -> size(own);
            case 4 -> own.left == null ? NONE : own.left.key;
            case 5 -> own.right == null ? NONE : own.right.key;
            case 6 -> way.size() == 1 ? NONE : way.get(way.size() - 2).key;
            case 7 -> now.items.headMap(key).size();
            default -> OUTSIDE;
        };
    }

    int as(int key, int kind) {
        if (!has(key)) {
            return UNKNOWN;
        }
        int own = now.items.get(key).kind;
        return switch (kind) {
            case 0 -> key;
            case 1 -> own == 1 || own == 4 ? key : NONE;
            case 2, 3, 4 -> own == kind ? key : NONE;
            default -> OUTSIDE;
        };
    }

    int at(int number) {
        if (now == null || number < 0 || number >= now.items.size()) {
            return UNKNOWN;
        }
        return new ArrayList<>(now.items.keySet()).get(number);
    }

    int next(int number) {
        if (now == null) {
            return STATE;
        }
        Integer key = now.items.higherKey(number);
        return key == null ? NONE : key;
    }

    int put(int kind, int key, int value) {
        if (kind < 0 || kind > 4 || key < 0 || key > 99 || value < 0 || value > 999) {
            return OUTSIDE;
        }
        if (now == null || has(key) && now.items.get(key).kind == 4) {
            return STATE;
        }
        if (!has(key) && now.items.size() == 40) {
            return FULL;
        }
        return now.put(kind, key, value);
    }

    int take(int key) {
        if (!has(key)) {
            return UNKNOWN;
        }
        Item item = now.items.get(key);
        if (item.kind == 1 || item.kind == 4) {
            return STATE;
        }
        now.take(key);
        return item.value;
    }

    int tell(int key) {
        if (!has(key)) {
            return UNKNOWN;
        }
        Item item = now.items.get(key);
        if (item.kind == 2 && item.value < 999) {
            now.items.put(key, new Item(2, item.value + 1));
        }
        if (item.kind == 3) {
            now.take(key);
        }
        return item.value;
    }

    int flatten() {
        if (now == null) {
            return STATE;
        }
        now.growth.buildAll();
        now.pay(now.growth.lastBuilt);
        return now.items.size();
    }

    int ledger(int what) {
        if (what < 0 || what > 6) {
            return OUTSIDE;
        }
        if (now == null) {
            return STATE;
        }
        Growth g = now.growth;
        int[] told = {tall(g.top), limit(size(g.top), g.a, g.b), g.most, 100000 + now.credit, 100000 + now.lowest,
            g.buildings, g.cost};
        return told[what];
    }

    private int tried(int key) {
        Growth g = now.growth.copy();
        g.put(key);
        return g.lastBuilt;
    }

    int would(int key) {
        if (key < 0 || key > 99) {
            return OUTSIDE;
        }
        if (now == null || now.items.size() == 40) {
            return STATE;
        }
        return has(key) ? NONE : tried(key);
    }

    int dear(int what) {
        if (what != 0 && what != 1) {
            return OUTSIDE;
        }
        if (now == null) {
            return STATE;
        }
        if (now.items.size() == 40) {
            return NONE;
        }
        int which = NONE;
        int much = NONE;
        for (int key = 99; key >= 0; key--) {
            if (!has(key) && tried(key) >= much) {
                which = key;
                much = tried(key);
            }
        }
        return what == 0 ? which : much;
    }

    int replay(int a, int b, int what) {
        String ratio = a + "" + b;
        if (!List.of("23", "34", "35", "45").contains(ratio) || what != 0 && what != 1) {
            return OUTSIDE;
        }
        if (now == null) {
            return STATE;
        }
        Growth g = new Growth(a, b);
        for (Done done : now.log) {
            if (done.put) {
                g.put(done.key);
            } else {
                g.take(done.key);
            }
        }
        return what == 0 ? g.cost : tall(g.top);
    }

    int ahead() {
        if (now == null) {
            return STATE;
        }
        Growth g = now.growth.copy();
        for (int times = 1; g.top != null; times++) {
            g.take(least(g.top));
            if (g.lastBuilt > 0) {
                return times;
            }
        }
        return NONE;
    }

    int see(int key, int what, boolean could) {
        if (key < 0 || key > 99 || what < 0 || what > 3) {
            return OUTSIDE;
        }
        if (now == null) {
            return STATE;
        }
        if (now.seen.size() == 6) {
            return FULL;
        }
        now.seen.add(new Sight(key, what, could));
        return now.seen.size();
    }

    int forget() {
        if (now == null) {
            return 0;
        }
        int had = now.seen.size();
        now.seen.clear();
        return had;
    }

    private static boolean can(int kind, int what) {
        return switch (what) {
            case 0 -> kind != 1 && kind != 4;
            case 1 -> kind != 4;
            case 2 -> kind == 2;
            default -> kind != 3;
        };
    }

    private List<Integer> sortsOf(int key) {
        List<Integer> sorts = new ArrayList<>();
        for (int kind = 0; kind <= 4; kind++) {
            boolean fits = true;
            if (now != null) {
                for (Sight s : now.seen) {
                    fits &= s.key != key || can(kind, s.what) == s.could;
                }
            }
            if (fits) {
                sorts.add(kind);
            }
        }
        return sorts;
    }

    int sorts(int key, int what) {
        if (key < 0 || key > 99 || what != 0 && what != 1) {
            return OUTSIDE;
        }
        List<Integer> sorts = sortsOf(key);
        if (what == 0) {
            int bits = 0;
            for (int kind : sorts) {
                bits += 1 << kind;
            }
            return bits;
        }
        int best = NONE;
        int fewest = 99;
        for (int ask = 0; ask <= 3 && !sorts.isEmpty(); ask++) {
            int yes = 0;
            for (int kind : sorts) {
                yes += can(kind, ask) ? 1 : 0;
            }
            int worst = Math.max(yes, sorts.size() - yes);
            if (worst < fewest) {
                best = ask;
                fewest = worst;
            }
        }
        return best;
    }

    int drawn(int times, int seed, int what) {
        if (times < 1 || times > 60 || seed < 0 || what < 0 || what > 2) {
            return OUTSIDE;
        }
        if (now == null) {
            return STATE;
        }
        Growth g = now.growth.copy();
        g.cost = 0;
        long s = seed;
        for (int i = 0; i < times; i++) {
            s = (1103515245L * s + 12345) & 0x7fffffffL;
            int key = (int) ((s >> 16) % 100);
            if (g.has(key)) {
                g.take(key);
            } else if (size(g.top) < 40) {
                g.put(key);
            }
        }
        return what == 0 ? g.cost : what == 1 ? tall(g.top) : (int) s;
    }

    int image() {
        if (now == null) {
            return STATE;
        }
        kept = now.copy();
        return now.items.size();
    }

    int restore() {
        if (kept == null) {
            return STATE;
        }
        now = kept.copy();
        return now.items.size();
    }

    int count(int what) {
        boolean on = now != null;
        return switch (what) {
            case 0 -> on ? now.items.size() : 0;
            case 1 -> on ? now.growth.a : 0;
            case 2 -> on ? now.growth.b : 0;
            case 3 -> on ? now.fee : 0;
            case 4 -> on ? now.log.size() : 0;
            case 5 -> on ? now.seen.size() : 0;
            case 6 -> page.length();
            case 7 -> reads;
            default -> OUTSIDE;
        };
    }

    long digest() {
        List<Long> numbers = new ArrayList<>();
        if (now != null) {
            for (int key : now.items.keySet()) {
                numbers.add((long) key);
                for (int what = 0; what <= 6; what++) {
                    numbers.add((long) entry(key, what));
                }
            }
            for (int what = 0; what <= 6; what++) {
                numbers.add((long) ledger(what));
            }
            numbers.add((long) (now.items.size() == 40 ? NONE : would(50)));
            numbers.add((long) ahead());
            numbers.add((long) replay(2, 3, 0));
            numbers.add((long) replay(2, 3, 1));
        }
        numbers.add((long) sorts(7, 0));
        numbers.add((long) sorts(7, 1));
        for (char c : page.toCharArray()) {
            numbers.add((long) c);
        }
        for (int what = 0; what <= 7; what++) {
            numbers.add((long) count(what));
        }
        long h = 1373;
        for (long number : numbers) {
            h = 31 * h + number;
        }
        return h;
    }
}
