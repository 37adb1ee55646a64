import java.util.Arrays;

/**
 * A shelf of entries by keys in a tree that keeps no number for its balance: where a new entry comes to lie too
 * deep, a part is built anew, flat, and a credit pays for it. Words in capitals are the document's own.
 */
public final class CreditShelf {
    public static final int NONE = -1, UNKNOWN = -101, OUTSIDE = -102, STATE = -103, FULL = -104;

    private static final int KEYS = 100;
    private static final int MOST_ENTRIES = 40;
    private static final int MOST_VALUE = 999;
    private static final int MOST_DRAWS = 60;
    private static final int TOLD_MORE = 100000;

    private static final int KINDS = 5;
    private static final int LOCKED = 1, COUNTED = 2, FADING = 3, SEALED = 4;
    private static final int ALL_SORTS = (1 << KINDS) - 1;

    private static final int BE_TAKEN = 0, BE_PUT_ANEW = 1;
    /** For each of the four things that an ENTRY could do: a bit for each KIND that can. */
    private static final int[] ABLE = {0b01101, 0b01111, 0b00100, 0b10111};

    private final Page page = new Page();
    private final Shelf now = new Shelf();
    private final Shelf kept = new Shelf();
    /** For what is only tried: no call makes a tree of its own. */
    private final Tree trial = new Tree();
    private boolean open;
    private boolean imaged;
    private int timesRead;

    public CreditShelf() {
    }

    // ---- the shelf

    public int letter(int code) {
        if (code < 1 || code > 126) {
            return OUTSIDE;
        }
        return page.append(code) ? page.length : FULL;
    }

    public int blank() {
        int had = page.length;
        page.length = 0;
        return had;
    }

    public int fault() {
        return page.firstWrong();
    }

    public int shelf() {
        if (!page.isShelf()) {
            return STATE;
        }
        now.begin(page.digit(0), page.digit(1), page.digit(3));
        int entries = page.entries();
        for (int i = 0; i < entries; i++) {
            now.place(page.kindOf(i), page.keyOf(i), page.valueOf(i));
        }
        page.length = 0;
        open = true;
        imaged = false;
        timesRead++;
        return now.tree.number;
    }

    public int entry(int key, int what) {
        Tree tree = now.tree;
        if (!tree.has(key)) {
            return UNKNOWN;
        }
        switch (what) {
            case 0: return now.kinds[key];
            case 1: return now.values[key];
            case 2: return tree.walk(key) - 1;
            case 3: return tree.sizes[key];
            case 4: return tree.lefts[key];
            case 5: return tree.rights[key];
            case 6: return tree.above(key);
            case 7: return tree.lesser(key);
            default: return OUTSIDE;
        }
    }

    public int as(int key, int kind) {
        if (!now.tree.has(key)) {
            return UNKNOWN;
        }
        if (kind < 0 || kind >= KINDS) {
            return OUTSIDE;
        }
        return isOf(now.kinds[key], kind) ? key : NONE;
    }

    public int at(int number) {
        int left = number;
        for (int key = 0; key < KEYS && left >= 0; key++) {
            if (now.tree.has(key)) {
                if (left == 0) {
                    return key;
                }
                left--;
            }
        }
        return UNKNOWN;
    }

    public int next(int number) {
        if (!open) {
            return STATE;
        }
        for (int key = 0; key < KEYS; key++) {
            if (key > number && now.tree.has(key)) {
                return key;
            }
        }
        return NONE;
    }

    // ---- what is done

    public int put(int kind, int key, int value) {
        if (kind < 0 || kind >= KINDS || isNoKey(key) || value < 0 || value > MOST_VALUE) {
            return OUTSIDE;
        }
        if (!open) {
            return STATE;
        }
        if (now.tree.has(key)) {
            if (!isAble(now.kinds[key], BE_PUT_ANEW)) {
                return STATE;
            }
        } else if (now.tree.isFull()) {
            return FULL;
        }
        return now.place(kind, key, value);
    }

    public int take(int key) {
        if (!now.tree.has(key)) {
            return UNKNOWN;
        }
        if (!isAble(now.kinds[key], BE_TAKEN)) {
            return STATE;
        }
        int value = now.values[key];
        now.remove(key);
        return value;
    }

    public int tell(int key) {
        if (!now.tree.has(key)) {
            return UNKNOWN;
        }
        int value = now.values[key];
        if (now.kinds[key] == COUNTED) {
            now.values[key] = Math.min(value + 1, MOST_VALUE);
        } else if (now.kinds[key] == FADING) {
            now.remove(key);
        }
        return value;
    }

    public int flatten() {
        if (!open) {
            return STATE;
        }
        now.settle(now.tree.buildAll());
        return now.tree.number;
    }

    // ---- what would be

    public int ledger(int what) {
        if (what < 0 || what > 6) {
            return OUTSIDE;
        }
        if (!open) {
            return STATE;
        }
        switch (what) {
            case 0: return now.tree.tall();
            case 1: return now.tree.limit(now.tree.number);
            case 2: return now.tree.most;
            case 3: return now.credit + TOLD_MORE;
            case 4: return now.lowest + TOLD_MORE;
            case 5: return now.tree.buildings;
            default: return now.tree.cost;
        }
    }

    public int would(int key) {
        if (isNoKey(key)) {
            return OUTSIDE;
        }
        if (!open || now.tree.isFull()) {
            return STATE;
        }
        return now.tree.has(key) ? NONE : now.tree.wouldBuild(key);
    }

    public int dear(int what) {
        if (what < 0 || what > 1) {
            return OUTSIDE;
        }
        if (!open) {
            return STATE;
        }
        if (now.tree.isFull()) {
            return NONE;
        }
        int dearest = NONE;
        int most = NONE;
        for (int key = 0; key < KEYS; key++) {
            int size = now.tree.has(key) ? NONE : now.tree.wouldBuild(key);
            if (size > most) {
                dearest = key;
                most = size;
            }
        }
        return what == 0 ? dearest : most;
    }

    public int replay(int a, int b, int what) {
        if (!isRatio(a, b) || what < 0 || what > 1) {
            return OUTSIDE;
        }
        if (!open) {
            return STATE;
        }
        trial.begin(a, b);
        for (int i = 0; i < now.log.length; i++) {
            trial.turn(now.log.keys[i]);
        }
        return what == 0 ? trial.cost : trial.tall();
    }

    public int ahead() {
        if (!open) {
            return STATE;
        }
        int number = now.tree.number;
        for (int left = number - 1; left > 0; left--) {
            if (now.tree.isFew(left)) {
                return number - left;
            }
        }
        return NONE;
    }

    // ---- what is seen

    public int see(int key, int what, boolean could) {
        if (isNoKey(key) || what < 0 || what >= ABLE.length) {
            return OUTSIDE;
        }
        if (!open) {
            return STATE;
        }
        int sorts = could ? ABLE[what] : ALL_SORTS & ~ABLE[what];
        return now.seen.add(key, sorts) ? now.seen.length : FULL;
    }

    public int forget() {
        int had = now.seen.length;
        now.seen.length = 0;
        return had;
    }

    public int sorts(int key, int what) {
        if (isNoKey(key) || what < 0 || what > 1) {
            return OUTSIDE;
        }
        int left = now.seen.sortsOf(key);
        return what == 0 ? left : bestAsk(left);
    }

    public int drawn(int times, int seed, int what) {
        if (times < 1 || times > MOST_DRAWS || seed < 0 || what < 0 || what > 2) {
            return OUTSIDE;
        }
        if (!open) {
            return STATE;
        }
        trial.copy(now.tree);
        long drawnSeed = seed;
        for (int i = 0; i < times; i++) {
            drawnSeed = (1103515245L * drawnSeed + 12345L) % (1L << 31);
            trial.turn((int) (drawnSeed / 65536L % KEYS));
        }
        switch (what) {
            case 0: return trial.cost - now.tree.cost;
            case 1: return trial.tall();
            default: return (int) drawnSeed;
        }
    }

    // ---- what is told of all

    public int image() {
        if (!open) {
            return STATE;
        }
        kept.copy(now);
        imaged = true;
        return now.tree.number;
    }

    public int restore() {
        if (!imaged) {
            return STATE;
        }
        now.copy(kept);
        return now.tree.number;
    }

    public int count(int what) {
        switch (what) {
            case 0: return now.tree.number;
            case 1: return now.tree.a;
            case 2: return now.tree.b;
            case 3: return now.fee;
            case 4: return now.log.length;
            case 5: return now.seen.length;
            case 6: return page.length;
            case 7: return timesRead;
            default: return OUTSIDE;
        }
    }

    public long digest() {
        long h = mixEntries(1373L);
        if (open) {
            h = mixShelf(h);
        }
        h = mix(h, sorts(7, 0));
        h = mix(h, sorts(7, 1));
        for (int i = 0; i < page.length; i++) {
            h = mix(h, page.letters[i]);
        }
        for (int what = 0; what <= 7; what++) {
            h = mix(h, count(what));
        }
        return h;
    }

    private long mixEntries(long start) {
        long h = start;
        for (int key = 0; key < KEYS; key++) {
            if (now.tree.has(key)) {
                h = mix(h, key);
                for (int what = 0; what <= 6; what++) {
                    h = mix(h, entry(key, what));
                }
            }
        }
        return h;
    }

    private long mixShelf(long start) {
        long h = start;
        for (int what = 0; what <= 6; what++) {
            h = mix(h, ledger(what));
        }
        h = mix(h, now.tree.isFull() ? NONE : would(50));
        h = mix(h, ahead());
        h = mix(h, replay(2, 3, 0));
        return mix(h, replay(2, 3, 1));
    }

    private static long mix(long h, long number) {
        return 31L * h + number;
    }

    private static boolean isNoKey(int key) {
        return key < 0 || key >= KEYS;
    }

    private static boolean isRatio(int a, int b) {
        // A of 2 at least goes without saying for digits, but twice a number far below 0 would wrap
        return a >= 2 && a < b && b <= 5 && 2 * a > b;
    }

    private static boolean isOf(int own, int kind) {
        return kind == 0 || own == kind || own == SEALED && kind == LOCKED;
    }

    private static boolean isAble(int kind, int what) {
        return (ABLE[what] & 1 << kind) != 0;
    }

    private static int bestAsk(int sorts) {
        if (sorts == 0) {
            return NONE;
        }
        int best = NONE;
        int fewest = KINDS + 1;
        for (int what = 0; what < ABLE.length; what++) {
            int worst = Math.max(Integer.bitCount(sorts & ABLE[what]), Integer.bitCount(sorts & ~ABLE[what]));
            if (worst < fewest) {
                best = what;
                fewest = worst;
            }
        }
        return best;
    }

    /** THE PAGE. Every part of a SHELF's text has a fixed place, so each letter is judged by where it stands. */
    private static final class Page {
        private static final int MOST_LETTERS = 54;
        private static final int HEAD = 5;
        private static final int STRIDE = 6;
        private static final int LAST_ENTRY = 7;
        private static final String KIND_LETTERS = "nlcfs";

        final int[] letters = new int[MOST_LETTERS];
        int length;

        boolean append(int code) {
            if (length >= letters.length) {
                return false;
            }
            letters[length] = code;
            length++;
            return true;
        }

        int firstWrong() {
            for (int i = 0; i < length; i++) {
                if (!fits(i)) {
                    return i;
                }
            }
            return length;
        }

        boolean isShelf() {
            boolean whole = length == HEAD || length > HEAD && (length - HEAD) % STRIDE == STRIDE - 1;
            return whole && firstWrong() == length;
        }

        int entries() {
            return (length - HEAD + 1) / STRIDE;
        }

        int kindOf(int entry) {
            return KIND_LETTERS.indexOf((char) code(HEAD + entry * STRIDE));
        }

        int keyOf(int entry) {
            int place = HEAD + entry * STRIDE;
            return 10 * digit(place + 1) + digit(place + 2);
        }

        int valueOf(int entry) {
            return digit(HEAD + entry * STRIDE + 4);
        }

        int digit(int place) {
            return code(place) - '0';
        }

        private int code(int place) {
            return place >= 0 && place < length ? letters[place] : 0;
        }

        /** Whether a SHELF can have this letter here, behind those ahead of it, which all fit. */
        private boolean fits(int place) {
            switch (place) {
                case 0: return digit(0) >= 2 && digit(0) <= 4;
                case 1: return isRatio(digit(0), digit(1));
                case 2: return code(2) == ';';
                case 3: return isDigit(3) && digit(3) > 0;
                case 4: return code(4) == ';';
                default: return fitsEntry((place - HEAD) / STRIDE, (place - HEAD) % STRIDE, place);
            }
        }

        private boolean fitsEntry(int entry, int part, int place) {
            switch (part) {
                case 0: return kindOf(entry) >= 0;
                case 2: return isDigit(place) && isNewKey(entry);
                case 3: return code(place) == '=';
                case 5: return code(place) == ',' && entry < LAST_ENTRY;
                default: return isDigit(place);
            }
        }

        private boolean isDigit(int place) {
            return code(place) >= '0' && code(place) <= '9';
        }

        private boolean isNewKey(int entry) {
            int own = HEAD + entry * STRIDE;
            for (int i = 0; i < entry; i++) {
                int other = HEAD + i * STRIDE;
                if (code(other + 1) == code(own + 1) && code(other + 2) == code(own + 2)) {
                    return false;
                }
            }
            return true;
        }
    }

    /** All that an IMAGE keeps. */
    private static final class Shelf {
        final Tree tree = new Tree();
        final int[] kinds = new int[KEYS];
        final int[] values = new int[KEYS];
        final Log log = new Log();
        final Seen seen = new Seen();
        int fee;
        int credit;
        int lowest;

        void begin(int a, int b, int newFee) {
            tree.begin(a, b);
            log.length = 0;
            seen.length = 0;
            fee = newFee;
            credit = 0;
            lowest = 0;
        }

        void copy(Shelf other) {
            tree.copy(other.tree);
            System.arraycopy(other.kinds, 0, kinds, 0, KEYS);
            System.arraycopy(other.values, 0, values, 0, KEYS);
            log.copy(other.log);
            seen.copy(other.seen);
            fee = other.fee;
            credit = other.credit;
            lowest = other.lowest;
        }

        /** PUTS a KEY, or PUTS it anew: the SIZE that was BUILT. The KEY is one, and there is room for it. */
        int place(int kind, int key, int value) {
            kinds[key] = kind;
            values[key] = value;
            if (tree.has(key)) {
                return 0;
            }
            log.add(key);
            credit += fee * (tree.walk(key) + 1);
            int built = tree.add(key);
            settle(built);
            return built;
        }

        /** TAKES a KEY that is there, of whatever KIND. */
        void remove(int key) {
            log.add(key);
            credit += fee * tree.walk(key);
            settle(tree.drop(key));
        }

        void settle(int built) {
            credit -= built;
            lowest = Math.min(lowest, credit);
        }
    }

    /**
     * The LOG. It tells only the KEYS: from an empty SHELF on, a KEY that is not there can only have been PUT, and
     * one that is there only TAKEN.
     */
    private static final class Log {
        private static final int MOST_LOGGED = 60;

        final int[] keys = new int[MOST_LOGGED];
        int length;

        void add(int key) {
            if (length < keys.length) {
                keys[length] = key;
                length++;
            }
        }

        void copy(Log other) {
            System.arraycopy(other.keys, 0, keys, 0, MOST_LOGGED);
            length = other.length;
        }
    }

    /** What is SEEN: for each time the KEY, and the SORTS for which it is so. */
    private static final class Seen {
        private static final int MOST_SEEN = 6;

        final int[] keys = new int[MOST_SEEN];
        final int[] fitting = new int[MOST_SEEN];
        int length;

        boolean add(int key, int sorts) {
            if (length >= keys.length) {
                return false;
            }
            keys[length] = key;
            fitting[length] = sorts;
            length++;
            return true;
        }

        int sortsOf(int key) {
            int left = ALL_SORTS;
            for (int i = 0; i < length; i++) {
                if (keys[i] == key) {
                    left &= fitting[i];
                }
            }
            return left;
        }

        void copy(Seen other) {
            System.arraycopy(other.keys, 0, keys, 0, MOST_SEEN);
            System.arraycopy(other.fitting, 0, fitting, 0, MOST_SEEN);
            length = other.length;
        }
    }

    /** The tree of KEYS alone. All rows are by the KEY; a SIZE of 0 says that the KEY is not there. */
    private static final class Tree {
        final int[] lefts = new int[KEYS];
        final int[] rights = new int[KEYS];
        final int[] sizes = new int[KEYS];
        /** The KEYS of the last way down, from the top. */
        private final int[] way = new int[MOST_ENTRIES];
        /** The KEYS of the part that is BUILT, in order. */
        private final int[] row = new int[MOST_ENTRIES];
        private int root = NONE;
        int a;
        int b;
        int number;
        int most;
        int buildings;
        int cost;

        void begin(int newA, int newB) {
            Arrays.fill(sizes, 0);
            root = NONE;
            a = newA;
            b = newB;
            number = 0;
            most = 0;
            buildings = 0;
            cost = 0;
        }

        void copy(Tree other) {
            System.arraycopy(other.lefts, 0, lefts, 0, KEYS);
            System.arraycopy(other.rights, 0, rights, 0, KEYS);
            System.arraycopy(other.sizes, 0, sizes, 0, KEYS);
            root = other.root;
            a = other.a;
            b = other.b;
            number = other.number;
            most = other.most;
            buildings = other.buildings;
            cost = other.cost;
        }

        boolean has(int key) {
            return key >= 0 && key < KEYS && sizes[key] > 0;
        }

        boolean isFull() {
            return number >= MOST_ENTRIES;
        }

        boolean isFew(int left) {
            return left > 0 && b * left < a * most;
        }

        int limit(int entries) {
            int h = 0;
            long power = b;
            long room = (long) entries * a;
            // for 40 ENTRIES no RATIO goes above 16, far below what a long can hold
            while (h < MOST_ENTRIES / 2 && power <= room) {
                h++;
                power *= b;
                room *= a;
            }
            return h;
        }

        /** Keeps the way down to a KEY, or to where it would be hung: how many ENTRIES are on it. */
        int walk(int key) {
            int steps = 0;
            int here = root;
            while (has(here) && steps < way.length) {
                way[steps] = here;
                steps++;
                here = key == here ? NONE : key < here ? lefts[here] : rights[here];
            }
            return steps;
        }

        int above(int key) {
            return onWay(walk(key) - 2);
        }

        int lesser(int key) {
            int less = 0;
            for (int other = 0; other < key && other < KEYS; other++) {
                if (has(other)) {
                    less++;
                }
            }
            return less;
        }

        int tall() {
            int tallest = NONE;
            for (int key = 0; key < KEYS; key++) {
                if (has(key)) {
                    tallest = Math.max(tallest, walk(key) - 1);
                }
            }
            return tallest;
        }

        /** TAKES the KEY if it is there, else PUTS it if there is room. */
        void turn(int key) {
            if (has(key)) {
                drop(key);
            } else if (!isFull()) {
                add(key);
            }
        }

        int wouldBuild(int key) {
            int heavy = heavyPlace(walk(key));
            return heavy == NONE ? 0 : sizes[way[heavy]] + 1;
        }

        /** Hangs a KEY that is not there: the SIZE that was BUILT. */
        int add(int key) {
            int steps = walk(key);
            int heavy = heavyPlace(steps);
            changeSizes(steps, 1);
            lefts[key] = NONE;
            rights[key] = NONE;
            sizes[key] = 1;
            hang(onWay(steps - 1), key, key);
            number++;
            most = Math.max(most, number);
            return heavy == NONE ? 0 : build(heavy);
        }

        /** Takes out a KEY that is there: the SIZE that was BUILT. */
        int drop(int key) {
            int steps = walk(key);
            changeSizes(steps, -1);
            hang(onWay(steps - 2), key, heirOf(key));
            sizes[key] = 0;
            number--;
            if (number == 0) {
                most = 0;
            }
            if (!isFew(number)) {
                return 0;
            }
            most = number;
            return buildAll();
        }

        int buildAll() {
            if (root == NONE) {
                return 0;
            }
            way[0] = root;
            return build(0);
        }

        /**
         * Where on the way down, of so many steps, the first part lies on the way back that is too much on one side
         * when a new one hangs below; NONE: the new one is not too deep. It is told ahead of the hanging, so that
         * what would be and what is done are found alike.
         */
        private int heavyPlace(int steps) {
            if (steps <= limit(number + 1)) {
                return NONE;
            }
            int side = 1;
            for (int place = Math.min(steps, way.length) - 1; place >= 0; place--) {
                int size = sizes[way[place]] + 1;
                int otherSide = size - 1 - side;
                if (b * Math.max(side, otherSide) > a * size) {
                    return place;
                }
                side = size;
            }
            return NONE;
        }

        private int onWay(int place) {
            return place >= 0 && place < way.length ? way[place] : NONE;
        }

        private void changeSizes(int steps, int by) {
            for (int i = 0; i < steps && i < way.length; i++) {
                sizes[way[i]] += by;
            }
        }

        /** Gives a new top to the side of the one above where a KEY is, or was; the root's place has none above. */
        private void hang(int above, int key, int top) {
            if (above == NONE) {
                root = top;
            } else if (key < above) {
                lefts[above] = top;
            } else {
                rights[above] = top;
            }
        }

        private int heirOf(int key) {
            if (!has(lefts[key])) {
                return rights[key];
            }
            if (!has(rights[key])) {
                return lefts[key];
            }
            return liftLeast(key);
        }

        /** The least of the RIGHT side gets both sides of the KEY, whose SIZE is one less already. */
        private int liftLeast(int key) {
            int over = key;
            int least = rights[key];
            for (int i = 0; i < MOST_ENTRIES && has(lefts[least]); i++) {
                sizes[least]--;
                over = least;
                least = lefts[least];
            }
            if (over != key) {
                lefts[over] = rights[least];
                rights[least] = rights[key];
            }
            lefts[least] = lefts[key];
            sizes[least] = sizes[key];
            return least;
        }

        /** Builds the part whose top lies at this place of the way: its SIZE. */
        private int build(int place) {
            int size = gather(place);
            hang(onWay(place - 1), onWay(place), flat(this, 0, size - 1, 0));
            buildings++;
            cost += size;
            return size;
        }

        /** A part has all the KEYS between the nearest ones above it, so no way down into it is needed. */
        private int gather(int place) {
            int low = NONE;
            int high = KEYS;
            for (int i = 0; i < place; i++) {
                if (way[i] < way[place]) {
                    low = way[i];
                } else {
                    high = way[i];
                }
            }
            int size = 0;
            for (int key = low + 1; key < high && size < row.length; key++) {
                if (sizes[key] > 0) {
                    row[size] = key;
                    size++;
                }
            }
            return size;
        }

        /** The top of what is built of a stretch of the row; halving 40 ends after six levels. */
        private static int flat(Tree tree, int from, int to, int level) {
            if (from < 0 || to >= MOST_ENTRIES || from > to || level > MOST_ENTRIES) {
                return NONE;
            }
            int middle = (from + to) / 2;
            int key = tree.row[middle];
            tree.lefts[key] = flat(tree, from, middle - 1, level + 1);
            tree.rights[key] = flat(tree, middle + 1, to, level + 1);
            tree.sizes[key] = to - from + 1;
            return key;
        }
    }
}
