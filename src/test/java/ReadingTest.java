import java.util.ArrayList;
import java.util.List;
import java.util.Random;
import java.util.TreeSet;

/**
 * The document once more from its first line: sentences that say of one call what others do, held against those others,
 * and not against a model. Each object is used for 512 calls at most, as the document says.
 */
public final class ReadingTest {
    private static final int NONE = -1, UNKNOWN = -101;
    private static final int RUNS = 60;
    private static final int[][] RATIOS = {{2, 3}, {3, 4}, {3, 5}, {4, 5}};
    private static final String LETTERS = "nlcfs";

    private ReadingTest() {
    }

    private static void due(String call, long got, long want) {
        Check.due(call, got, want);
    }

    private static String head(int ratio, int fee) {
        return RATIOS[ratio][0] + "" + RATIOS[ratio][1] + ";" + fee + ";";
    }

    /** A row of KEYS of a width, some going up, some down, some drawn: one that is there is TAKEN, else it is PUT. */
    private static int[] row(int run, int length) {
        Random draw = new Random(31L * run + 5);
        int width = new int[] {100, 60, 30, 12}[run % 4];
        int[] keys = new int[length];
        for (int i = 0; i < length; i++) {
            int step = draw.nextInt(3) == 0 ? draw.nextInt(width) : 3 * i;
            keys[i] = Math.floorMod(run / 4 % 2 == 0 ? step : -step, width);
        }
        return keys;
    }

    private static void turn(CreditShelf x, int key) {
        if (x.take(key) == UNKNOWN && x.count(0) < 40) {
            x.put(0, key, key);
        }
    }

    private static CreditShelf grown(int run, int length) {
        CreditShelf x = Check.shelfOf(head(run % 4, 1 + run % 9));
        for (int key : row(run / 4, length)) {
            turn(x, key);
        }
        return x;
    }

    // ---- what it is

    /** "An object is used for at most 512 calls after it has been made": the last of them is as right as the first */
    private static void theLastCall() {
        CreditShelf x = Check.shelfOf("23;1;");
        int calls = 6;
        for (int i = 0; i < 40; i++, calls++) {
            x.put(4, 2 * i, 999);
        }
        int credit = x.ledger(3);
        int cost = x.ledger(6);
        int buildings = x.ledger(5);
        calls += 3;
        int flattened = 0;
        for (; calls < 509; calls++, flattened++) {
            x.flatten();
        }
        due("CREDIT at the 510th", x.ledger(3), credit - 40L * flattened);
        due("BUILDINGS at the 511th", x.ledger(5), buildings + flattened);
        due("COST at the 512th", x.ledger(6), cost + 40L * flattened);
    }

    /** "They are PUT one after the other.": a text's ENTRIES as by put() */
    private static void putOneAfterTheOther() {
        for (int run = 0; run < RUNS; run++) {
            Random draw = new Random(run);
            List<Integer> keys = new ArrayList<>();
            int entries = run % 9;
            while (keys.size() < entries) {
                int key = run % 2 == 0 ? draw.nextInt(100) : 11 * keys.size() + draw.nextInt(11);
                if (!keys.contains(key)) {
                    keys.add(key);
                }
            }
            StringBuilder text = new StringBuilder(head(run % 4, 1 + run % 9));
            CreditShelf y = Check.shelfOf(text.toString());
            for (int i = 0; i < entries; i++) {
                int kind = draw.nextInt(5);
                int value = draw.nextInt(10);
                text.append(i == 0 ? "" : ",").append(LETTERS.charAt(kind)).append(String.format("%02d=%d", keys.get(i), value));
                y.put(kind, keys.get(i), value);
            }
            CreditShelf x = Check.shelfOf(text.toString());
            Check.holds(text + " as by put()", Check.told(x).equals(Check.told(y)));
        }
    }

    // ---- how the tree lies

    /** "all ENTRIES on its LEFT side have lesser KEYS, all on its RIGHT side greater ones": how many there are from it down */
    private static int below(CreditShelf x, int key, int low, int high, int depth) {
        if (key == NONE) {
            return 0;
        }
        Check.holds(key + " lies between " + low + " and " + high, low < key && key < high && depth <= 40);
        due("DEPTH of " + key, x.entry(key, 2), depth);
        int left = x.entry(key, 4);
        int right = x.entry(key, 5);
        for (int side : new int[] {left, right}) {
            if (side != NONE) {
                due("right above " + side, x.entry(side, 6), key);
            }
        }
        int size = below(x, left, low, key, depth + 1) + 1 + below(x, right, key, high, depth + 1);
        due("SIZE of " + key, x.entry(key, 3), size);
        return size;
    }

    /** "DEPTH is how many are above it; TALL the greatest DEPTH (NONE: no ENTRY). SIZE is how many there are from it down" */
    private static void howTheTreeLies() {
        for (int run = 0; run < RUNS; run++) {
            CreditShelf x = grown(run, 15 + run / 2);
            int number = x.count(0);
            int top = NONE;
            int tall = NONE;
            int key = NONE;
            for (int i = 0; i < number; i++) {
                key = x.next(key);
                tall = Math.max(tall, x.entry(key, 2));
                top = x.entry(key, 6) == NONE ? key : top;
            }
            due("from the top down", below(x, top, -1, 100, 0), number);
            due("TALL", x.ledger(0), tall);
        }
    }

    /** "7 how many KEYS are less", "The KEY of so many lesser ones", "The least KEY above a number": one order for all */
    private static void oneOrder() {
        for (int run = 0; run < RUNS; run++) {
            CreditShelf x = grown(run, 20 + run);
            int number = x.count(0);
            int key = NONE;
            for (int i = 0; i < number; i++) {
                key = x.next(key);
                due("at(" + i + ")", x.at(i), key);
                due("KEYS less than " + key, x.entry(key, 7), i);
            }
            due("behind the last", x.next(key), NONE);
            due("there are not so many", x.at(number), UNKNOWN);
        }
    }

    // ---- what is done

    /** "each BUILDING takes as much as its SIZE from it": CREDIT is what was paid, less the COST; told by put(), too */
    private static void creditIsPaidLessCost() {
        for (int run = 0; run < RUNS; run++) {
            int fee = 1 + run % 9;
            CreditShelf x = Check.shelfOf(head(run % 4, fee));
            int paid = 0;
            int built = 0;
            TreeSet<Integer> there = new TreeSet<>();
            for (int key : row(run / 4, 40)) {
                if (there.remove(key)) {
                    paid += fee * (x.entry(key, 2) + 1);
                    int cost = x.ledger(6);
                    x.take(key);
                    built += x.ledger(6) - cost;
                } else {
                    paid += fee * (1 + Math.max(downTo(x, there.lower(key)), downTo(x, there.higher(key))));
                    built += x.put(0, key, 0);
                    there.add(key);
                }
            }
            due("COST", x.ledger(6), built);
            due("CREDIT", x.ledger(3), 100000 + paid - built);
        }
    }

    /** How many are on the way down to an ENTRY, with itself; a new KEY hangs below the deeper one of its neighbours. */
    private static int downTo(CreditShelf x, Integer key) {
        return key == null ? 0 : x.entry(key, 2) + 1;
    }

    // ---- what would be

    private static CreditShelf turned(int ratio, int[] keys) {
        CreditShelf y = Check.shelfOf(head(ratio, 9));
        for (int key : keys) {
            turn(y, key);
        }
        return y;
    }

    /** "REPLAY by another RATIO: from an empty SHELF all of the LOG once more": as a SHELF of that RATIO has it */
    private static void replayAsAnotherShelf() {
        int[] costs = new int[4];
        for (int run = 0; run < RUNS; run++) {
            int[] keys = row(run, 60);
            CreditShelf x = Check.shelfOf(head(run % 4, 1));
            for (int i = 0; i < 60; i++) {
                turn(x, keys[i]);
                if (i % 17 == 16) {
                    // neither is in the LOG, though all lie in another way from then on
                    x.flatten();
                    x.put(2, x.at(0), 9);
                }
            }
            for (int other = 0; other < 4; other++) {
                CreditShelf y = turned(other, keys);
                int cost = x.replay(RATIOS[other][0], RATIOS[other][1], 0);
                due("in the LOG", x.count(4), y.count(4));
                due("COST", cost, y.ledger(6));
                due("TALL", x.replay(RATIOS[other][0], RATIOS[other][1], 1), y.ledger(0));
                costs[other] += cost;
            }
        }
        for (int cost : costs) {
            Check.holds("something was BUILT by each", cost > 0);
        }
    }

    /** "DEAR: for which KEY that is most: of like ones the least": of all that would() tells */
    private static void dearOfAllKeys() {
        for (int run = 0; run < RUNS; run++) {
            CreditShelf x = grown(run, 20 + run);
            int which = NONE;
            int most = NONE;
            for (int key = 0; key <= 99 && x.count(0) < 40; key++) {
                int would = x.would(key);
                if (would > most) {
                    which = key;
                    most = would;
                }
            }
            due("which", x.dear(0), which);
            due("how much", x.dear(1), most);
        }
    }

    /** "AHEAD: how many times the ENTRY of the least KEY would have to be TAKEN": MOST may be more than there are */
    private static void aheadByTaking() {
        for (int run = 0; run < RUNS; run++) {
            CreditShelf x = grown(run, 20 + run);
            int ahead = x.ahead();
            int buildings = x.ledger(5);
            int times = 0;
            while (x.count(0) > 0 && x.ledger(5) == buildings) {
                x.take(x.at(0));
                times++;
            }
            due("ahead()", ahead, x.ledger(5) == buildings ? NONE : times);
        }
    }

    // ---- what is seen

    /** What an ENTRY of a KIND could do, tried on one. */
    private static boolean could(int kind, int what) {
        CreditShelf x = Check.shelfOf("23;1;" + LETTERS.charAt(kind) + "50=3");
        switch (what) {
            case 0: return x.take(50) == 3;
            case 1: return x.put(0, 50, 4) == 0 && x.entry(50, 1) == 4;
            case 2: return x.tell(50) + 1 == x.tell(50);
            default: return x.tell(50) == 3 && x.entry(50, 1) != UNKNOWN;
        }
    }

    /** Of some KINDS, as bits, how many are left at worst when this is asked. */
    private static int leftAtWorst(int sorts, boolean[][] could, int what) {
        int yes = 0;
        int no = 0;
        for (int kind = 0; kind <= 4; kind++) {
            if ((sorts >> kind & 1) == 1) {
                yes += could[kind][what] ? 1 : 0;
                no += could[kind][what] ? 0 : 1;
            }
        }
        return Math.max(yes, no);
    }

    private static int leastOfTheBest(int sorts, boolean[][] could) {
        int best = NONE;
        for (int what = 3; what >= 0 && sorts != 0; what--) {
            if (best == NONE || leftAtWorst(sorts, could, what) <= leftAtWorst(sorts, could, best)) {
                best = what;
            }
        }
        return best;
    }

    /** "so that all that is SEEN of that KEY is so ... fewest of these are left at worst": every meeting of what is SEEN */
    private static void everyMeetingOfSights() {
        boolean[][] could = new boolean[5][4];
        for (int kind = 0; kind <= 4; kind++) {
            for (int what = 0; what <= 3; what++) {
                could[kind][what] = could(kind, what);
            }
        }
        for (int meeting = 0; meeting < 81; meeting++) {
            CreditShelf x = Check.shelfOf("23;1;c07=5");
            int sorts = 31;
            int rest = meeting;
            for (int what = 0; what <= 3; what++, rest /= 3) {
                boolean so = rest % 3 == 1;
                if (rest % 3 != 2) {
                    x.see(7, what, so);
                    for (int kind = 0; kind <= 4; kind++) {
                        sorts &= could[kind][what] == so ? 31 : ~(1 << kind);
                    }
                }
            }
            due("SORTS of the meeting " + meeting, x.sorts(7, 0), sorts);
            due("ASK of the meeting " + meeting, x.sorts(7, 1), leastOfTheBest(sorts, could));
        }
    }

    /** "of which it is not known of which KIND it is": what is SEEN, not what is there, and nothing is asked of it */
    private static void itIsNotKnown() {
        CreditShelf x = Check.shelfOf("23;1;c07=5");
        due("of a COUNTED one nothing is known", x.sorts(7, 0), 31);
        x.see(7, 2, false);
        due("that it does not count is SEEN", x.sorts(7, 0), 0b11011);
        x.put(4, 7, 1);
        due("PUT anew, it is no other", x.sorts(7, 0), 0b11011);
        due("its VALUE stays", x.entry(7, 1), 1);
    }

    /** "Nothing is SEEN any more": and nothing else */
    private static void forgetAlone() {
        CreditShelf x = grown(9, 40);
        String before = Check.told(x);
        for (int i = 0; i < 6; i++) {
            x.see(7, i % 4, i % 2 == 0);
        }
        Check.holds("it is SEEN", !Check.told(x).equals(before));
        x.forget();
        Check.holds("it is not any more", Check.told(x).equals(before));
    }

    /** "so many times a KEY by a DRAW of 100 is TAKEN if it is there, else PUT": as it is when it is done */
    private static void drawnAsDone() {
        for (int run = 0; run < RUNS; run++) {
            int times = 1 + run * 7 % 60;
            int seed = 1000 * run + run;
            CreditShelf x = grown(run, 60);
            CreditShelf y = grown(run, 60);
            x.put(4, x.at(0), 0);
            x.put(1, x.at(1), 0);
            int cost = y.ledger(6);
            long drawn = seed;
            for (int i = 0; i < times; i++) {
                drawn = (1103515245L * drawn + 12345L) % 2147483648L;
                turn(y, (int) (drawn / 65536 % 100));
            }
            due("COST", x.drawn(times, seed, 0), y.ledger(6) - cost);
            due("TALL", x.drawn(times, seed, 1), y.ledger(0));
            due("the SEED then", x.drawn(times, seed, 2), drawn);
        }
    }

    // ---- what is told of all

    /** "It goes on from the IMAGE": what is done then is done as if nothing had been done since */
    private static void goesOnFromTheImage() {
        for (int run = 0; run < RUNS; run++) {
            CreditShelf x = grown(run, 20);
            CreditShelf y = grown(run, 20);
            for (CreditShelf z : new CreditShelf[] {x, y}) {
                z.put(2, 7, 990);
                z.put(3, 8, 1);
                z.see(7, 1, true);
                z.flatten();
            }
            x.image();
            for (int key : row(run + 1, 60)) {
                turn(x, key);
            }
            x.forget();
            x.see(7, 0, false);
            x.tell(7);
            x.tell(8);
            x.restore();
            for (CreditShelf z : new CreditShelf[] {x, y}) {
                due("tell(8)", z.tell(8), 1);
                z.see(7, 3, false);
                for (int key : row(run + 2, 50)) {
                    turn(z, key);
                }
                z.tell(7);
            }
            Check.holds("both are alike", Check.told(x).equals(Check.told(y)));
        }
    }

    /** "A letter comes behind THE PAGE", "THE PAGE is empty": THE SHELF is not touched */
    private static void pageAlone() {
        CreditShelf x = grown(5, 40);
        String before = Check.told(x);
        Check.write(x, "45;9;n00=0");
        Check.holds("letters are told", !Check.told(x).equals(before));
        due("fault()", x.fault(), 10);
        x.blank();
        Check.holds("nothing else changed", Check.told(x).equals(before));
    }

    public static void main(String[] args) {
        theLastCall();
        putOneAfterTheOther();
        howTheTreeLies();
        oneOrder();
        creditIsPaidLessCost();
        replayAsAnotherShelf();
        dearOfAllKeys();
        aheadByTaking();
        everyMeetingOfSights();
        itIsNotKnown();
        forgetAlone();
        drawnAsDone();
        goesOnFromTheImage();
        pageAlone();
        Check.end("ReadingTest");
    }
}
