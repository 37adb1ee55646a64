import java.math.BigInteger;

/** Each sentence of "Terms" that names a boundary case, in a test of its own. */
public final class TermsBoundaryTest {
    private static final int NONE = -1, UNKNOWN = -101, OUTSIDE = -102, STATE = -103, FULL = -104;
    private static final int MAX = Integer.MAX_VALUE;
    private static final String[] HEADS = {"23;1;", "34;1;", "35;1;", "45;1;"};
    private static final int[][] RATIOS = {{2, 3}, {3, 4}, {3, 5}, {4, 5}};
    /** Three ENTRIES on each side of 50, none deeper than another; by this RATIO two may be TAKEN, and none is BUILT. */
    private static final String SEVEN = "35;1;n50=0,n25=1,n75=2,n12=3,n37=4,n62=5,n87=6";

    private TermsBoundaryTest() {
    }

    private static void due(String call, long got, long want) {
        Check.due(call, got, want);
    }

    /** How an ENTRY lies: the KEYS right below it on the LEFT, the RIGHT and right above it, and its SIZE. */
    private static void lies(CreditShelf x, int key, int left, int right, int above, int size) {
        due("LEFT of " + key, x.entry(key, 4), left);
        due("RIGHT of " + key, x.entry(key, 5), right);
        due("above " + key, x.entry(key, 6), above);
        due("SIZE of " + key, x.entry(key, 3), size);
    }

    // ---- how many

    /** "There are 40 ENTRIES at most" */
    private static void fortyAtMost() {
        for (String head : HEADS) {
            CreditShelf x = Check.evens(head, 39);
            Check.holds("the 40th is PUT", x.put(0, 99, 0) >= 0);
            due("count(0)", x.count(0), 40);
            due("the 41st", x.put(0, 1, 0), FULL);
            due("count(0)", x.count(0), 40);
            x.take(99);
            Check.holds("there is room again", x.put(0, 1, 0) >= 0);
            due("and no more", x.put(0, 3, 0), FULL);
        }
    }

    /** "of KEYS 0 to 99" */
    private static void keysTo99() {
        CreditShelf x = Check.shelfOf("23;1;");
        due("put 0", x.put(0, 0, 1), 0);
        due("put 99", x.put(0, 99, 2), 0);
        due("put -1", x.put(0, -1, 3), OUTSIDE);
        due("put 100", x.put(0, 100, 3), OUTSIDE);
        lies(x, 0, NONE, 99, NONE, 2);
        lies(x, 99, NONE, NONE, 0, 1);
        due("take(99)", x.take(99), 2);
        due("take(0)", x.take(0), 1);
    }

    /** "TALL the greatest DEPTH (NONE: no ENTRY)" */
    private static void tallOfNone() {
        CreditShelf x = Check.shelfOf("23;1;");
        due("TALL of none", x.ledger(0), NONE);
        x.put(0, 50, 0);
        due("TALL of one", x.ledger(0), 0);
        x.put(0, 40, 0);
        due("TALL of two", x.ledger(0), 1);
        x.put(0, 60, 0);
        due("TALL of three, side by side", x.ledger(0), 1);
        x.take(40);
        x.take(60);
        x.take(50);
        due("TALL when all were TAKEN", x.ledger(0), NONE);
    }

    // ---- LIMIT

    /** The document's words, once more: the greatest H so that B by itself H times is no more than N times A likewise. */
    private static int limit(int n, int a, int b) {
        int greatest = 0;
        for (int h = 1; h <= 60; h++) {
            if (BigInteger.valueOf(b).pow(h).compareTo(BigInteger.valueOf(a).pow(h).multiply(BigInteger.valueOf(n))) <= 0) {
                greatest = h;
            }
        }
        return greatest;
    }

    /** "LIMIT for N ENTRIES is the greatest H so that ... (0 for N of 0 or 1)" */
    private static void limitOfEveryNumber() {
        int[] of40 = {9, 12, 7, 16};
        for (int r = 0; r < 4; r++) {
            CreditShelf x = Check.shelfOf(HEADS[r]);
            due("LIMIT of 0", x.ledger(1), 0);
            x.put(0, 0, 0);
            due("LIMIT of 1", x.ledger(1), 0);
            for (int n = 2; n <= 40; n++) {
                x.put(0, 2 * n, 0);
                due("LIMIT of " + n + " by " + HEADS[r], x.ledger(1), limit(n, RATIOS[r][0], RATIOS[r][1]));
            }
            due("LIMIT of 40 by " + HEADS[r], x.ledger(1), of40[r]);
        }
    }

    /** "LIMIT": right where one more ENTRY lets it grow (81 is 1 more than 5 times 16, 27 is less than 4 times 8) */
    private static void limitWhereItGrows() {
        int[][] grown = {{0, 2, 1}, {0, 3, 2}, {0, 4, 3}, {0, 5, 3}, {0, 6, 4}, {1, 6, 6}, {1, 7, 6}, {1, 8, 7}, {2, 4, 2},
            {2, 5, 3}, {2, 7, 3}, {2, 8, 4}, {3, 9, 9}, {3, 10, 10}, {3, 11, 10}, {3, 12, 11}, {3, 13, 11}};
        for (int[] row : grown) {
            due("LIMIT of " + row[1] + " by " + HEADS[row[0]], Check.evens(HEADS[row[0]], row[1]).ledger(1), row[2]);
        }
    }

    // ---- BUILT

    /** "if its DEPTH is more than LIMIT then": the last chain that is not too deep, and the first that is */
    private static void deeperThanLimit() {
        int[] chains = {4, 8, 3, 12};
        int[] built = {4, 5, 3, 6};
        for (int r = 0; r < 4; r++) {
            CreditShelf x = Check.evens(HEADS[r], chains[r]);
            CreditShelf y = Check.shelfOf(HEADS[r]);
            for (int i = 0; i < chains[r]; i++) {
                due("PUT downwards by " + HEADS[r], y.put(0, 99 - 2 * i, 0), 0);
            }
            due("TALL upwards by " + HEADS[r], x.ledger(0), chains[r] - 1);
            due("BUILT upwards by " + HEADS[r], x.ledger(5), 0);
            due("one more upwards", x.put(0, 90, 0), built[r]);
            due("TALL downwards by " + HEADS[r], y.ledger(0), chains[r] - 1);
            due("one more downwards", y.put(0, 9, 0), built[r]);
        }
    }

    /** "if its DEPTH is more than LIMIT then": LIMIT of how many there are with the new one, 3 for 4 and 2 for 3 */
    private static void limitWithTheNewOne() {
        CreditShelf x = Check.shelfOf("23;1;n10=0,n20=0,n30=0");
        due("LIMIT ahead of it", x.ledger(1), 2);
        due("put at a DEPTH of 3", x.put(0, 40, 0), 0);
        due("its DEPTH", x.entry(40, 2), 3);
    }

    /** "B times the SIZE of one side is more than A times its own SIZE": as much is not more */
    private static void asMuchIsNotMore() {
        // 3 times 2 is 2 times 3, so 30 stays, and 20 is the first
        due("by 2 and 3", Check.shelfOf("23;1;n10=0,n20=0,n30=0,n40=0").put(0, 50, 0), 4);
        due("by 3 and 4", Check.evens("34;1;", 8).put(0, 90, 0), 5);
        due("by 4 and 5", Check.evens("45;1;", 12).put(0, 90, 0), 6);
        CreditShelf x = sixOfEight();
        // with 15 the side of 10 has 3 of the 5 from 4 down: 5 times 3 is 3 times 5, so 18 is the first
        due("by 3 and 5", x.put(0, 15, 0), 6);
        lies(x, 8, 3, 15, 1, 6);
    }

    /** "the first ENTRY on the way up": those above it stay, though 10 is too much on one side as well */
    private static void firstOnTheWayUp() {
        CreditShelf x = Check.shelfOf("23;1;n10=0,n20=0,n30=0,n40=0");
        due("put(0, 50, 0)", x.put(0, 50, 0), 4);
        lies(x, 10, NONE, 30, NONE, 5);
        lies(x, 30, 20, 40, 10, 4);
        lies(x, 20, NONE, NONE, 30, 1);
        lies(x, 40, NONE, 50, 30, 2);
        lies(x, 50, NONE, NONE, 40, 1);
    }

    private static void putAll(CreditShelf x, int... keys) {
        for (int key : keys) {
            due("put(0, " + key + ", 0)", x.put(0, key, 0), 0);
        }
    }

    /** "the first ENTRY on the way up": it may be the top, and all are BUILT, but by a PUT, so that MOST stays */
    private static void firstIsTheTop() {
        CreditShelf x = Check.shelfOf("35;1;n20=0,n28=0,n24=0,n33=0,n22=0,n26=0,n30=0,n36=0");
        putAll(x, 21, 23, 25, 27, 29, 31, 34, 38, 32, 35, 37, 39, 0, 1);
        x.take(1);
        x.take(0);
        lies(x, 20, NONE, 28, NONE, 20);
        // on the way up from 40 the sides have 1 of 2, 2 of 4, 4 of 7, 7 of 12, 12 of 20: as much, not more
        due("put(0, 40, 0)", x.put(0, 40, 0), 21);
        lies(x, 30, 24, 35, NONE, 21);
        due("TALL", x.ledger(0), 4);
        due("MOST stays", x.ledger(2), 22);
    }

    /** "the SIZE of one side": it may be the side on which the new one does not lie */
    private static void theOtherSideIsTooMuch() {
        CreditShelf x = Check.shelfOf("23;1;n08=0,n04=0,n12=0,n02=0,n06=0,n10=0,n14=0,n01=0");
        putAll(x, 3, 5, 7, 9, 11, 13, 15, 29, 22, 31, 18, 25, 30, 32, 16, 20, 23, 27, 33, 17, 19, 21, 24, 26, 28);
        for (int key : new int[] {1, 3, 5, 7, 2, 6, 4, 9, 11, 10, 13}) {
            x.take(key);
        }
        due("nothing is BUILT", x.ledger(5), 0);
        lies(x, 29, 22, 31, 15, 18);
        // on the way up from 34 its own side has 1 of 2, 2 of 3, 3 of 5, 5 of 19; but the other one has 13 of 19
        due("put(0, 34, 0)", x.put(0, 34, 0), 19);
        lies(x, 25, 20, 30, 15, 19);
    }

    /** "the middle one (of an even number the lesser one of the two) on top" */
    private static void middleOfEveryNumber() {
        for (int n = 1; n <= 40; n++) {
            CreditShelf x = Check.evens("45;1;", n);
            due("flatten() of " + n, x.flatten(), n);
            int top = 2 * ((n + 1) / 2 - 1);
            int less = (n + 1) / 2 - 1;
            due("on top of " + n, x.entry(top, 2), 0);
            due("less than it", x.entry(top, 7), less);
            due("LEFT of it", x.entry(top, 4), less == 0 ? NONE : 2 * ((less + 1) / 2 - 1));
            due("RIGHT of it", x.entry(top, 5), n == 1 ? NONE : top + 2 * ((n - less) / 2));
        }
    }

    /** "each side likewise": of four and of eight, down to those with nothing below */
    private static void eachSideLikewise() {
        CreditShelf x = Check.evens("45;1;", 8);
        x.flatten();
        int[][] due = {{6, 2, 10, NONE, 8}, {2, 0, 4, 6, 3}, {0, NONE, NONE, 2, 1}, {4, NONE, NONE, 2, 1}, {10, 8, 12, 6, 4},
            {8, NONE, NONE, 10, 1}, {12, NONE, 14, 10, 2}, {14, NONE, NONE, 12, 1}};
        for (int[] row : due) {
            lies(x, row[0], row[1], row[2], row[3], row[4]);
        }
    }

    /** "A KEY that is there is PUT anew: KIND and VALUE are others, nothing moves." */
    private static void putAnew() {
        CreditShelf x = Check.shelfOf("23;1;n10=0,n20=0,n30=0,n40=0");
        for (int key = 10; key <= 40; key += 10) {
            due("put(2, " + key + ", 999)", x.put(2, key, 999), 0);
            due("KIND", x.entry(key, 0), 2);
            due("VALUE", x.entry(key, 1), 999);
            due("DEPTH", x.entry(key, 2), key / 10 - 1);
        }
        int[] ledger = {3, 3, 4, 100010, 100000, 0, 0};
        for (int what = 0; what <= 6; what++) {
            due("ledger(" + what + ")", x.ledger(what), ledger[what]);
        }
        due("in the LOG", x.count(4), 4);
    }

    // ---- TAKEN

    private static CreditShelf sevenWithout(int... keys) {
        CreditShelf x = Check.shelfOf(SEVEN);
        for (int key : keys) {
            x.take(key);
        }
        due("nothing is BUILT", x.ledger(5), 0);
        return x;
    }

    /** "if it has no LEFT, or no RIGHT side, the other side comes to its place": it has neither */
    private static void takenWithNeitherSide() {
        lies(sevenWithout(12), 25, NONE, 37, 50, 2);
        lies(sevenWithout(37), 25, 12, NONE, 50, 2);
        lies(sevenWithout(87), 75, 62, NONE, 50, 2);
        lies(sevenWithout(12), 50, 25, 75, NONE, 6);
        CreditShelf x = Check.shelfOf("23;1;n50=0");
        x.take(50);
        due("the only one", x.next(-1), NONE);
    }

    /** "if it has no LEFT ... the other side comes to its place", at the top too */
    private static void takenWithoutALeftSide() {
        CreditShelf x = sevenWithout(12, 25);
        lies(x, 50, 37, 75, NONE, 5);
        lies(x, 37, NONE, NONE, 50, 1);
        CreditShelf y = sevenWithout(62, 75);
        lies(y, 50, 25, 87, NONE, 5);
        lies(y, 87, NONE, NONE, 50, 1);
        CreditShelf z = Check.shelfOf("35;1;n10=0,n20=0,n30=0");
        z.take(10);
        lies(z, 20, NONE, 30, NONE, 2);
    }

    /** "or no RIGHT side, the other side comes to its place", at the top too */
    private static void takenWithoutARightSide() {
        CreditShelf x = sevenWithout(37, 25);
        lies(x, 50, 12, 75, NONE, 5);
        lies(x, 12, NONE, NONE, 50, 1);
        CreditShelf y = sevenWithout(87, 75);
        lies(y, 50, 25, 62, NONE, 5);
        lies(y, 62, NONE, NONE, 50, 1);
        CreditShelf z = Check.shelfOf("35;1;n30=0,n20=0,n10=0");
        z.take(30);
        lies(z, 20, 10, NONE, NONE, 2);
    }

    /** "else the least ENTRY of its RIGHT side comes to its place": it lies right below */
    private static void leastOfItsRightSideRightBelow() {
        CreditShelf x = sevenWithout(25);
        lies(x, 37, 12, NONE, 50, 2);
        lies(x, 12, NONE, NONE, 37, 1);
        lies(x, 50, 37, 75, NONE, 6);
        CreditShelf y = sevenWithout();
        y.put(0, 99, 0);
        y.take(75);
        lies(y, 87, 62, 99, 50, 3);
        lies(y, 62, NONE, NONE, 87, 1);
        lies(y, 99, NONE, NONE, 87, 1);
    }

    /** "and that one's RIGHT side to where it was": with none, and with one */
    private static void leastOfItsRightSideFurtherDown() {
        CreditShelf x = sevenWithout(50);
        lies(x, 62, 25, 75, NONE, 6);
        lies(x, 75, NONE, 87, 62, 2);
        lies(x, 25, 12, 37, 62, 3);
        CreditShelf y = sevenWithout();
        y.put(0, 65, 0);
        y.take(50);
        lies(y, 62, 25, 75, NONE, 7);
        lies(y, 75, 65, 87, 62, 3);
        lies(y, 65, NONE, NONE, 75, 1);
    }

    // ---- MOST

    /** "B times how many there are is less than A times MOST": as much is not less */
    private static void asMuchIsNotLess() {
        int[] most = {3, 4, 5, 5};
        int[] left = {2, 3, 3, 4};
        for (int r = 0; r < 4; r++) {
            for (int times = 1; times * most[r] <= 40; times++) {
                CreditShelf x = Check.evens(HEADS[r], times * most[r]);
                int buildings = x.ledger(5);
                while (x.count(0) > times * left[r]) {
                    x.take(x.at(0));
                }
                due("as much by " + HEADS[r], x.ledger(5), buildings);
                due("MOST by " + HEADS[r], x.ledger(2), times * most[r]);
                x.take(x.at(0));
                due("less by " + HEADS[r], x.ledger(5), buildings + 1);
                due("MOST by " + HEADS[r], x.ledger(2), times * left[r] - 1);
                due("it is flat", x.ledger(0), 31 - Integer.numberOfLeadingZeros(times * left[r] - 1));
            }
        }
    }

    /** "if there are any": the last one is TAKEN, nothing is BUILT */
    private static void ifThereAreAny() {
        for (String head : HEADS) {
            CreditShelf x = Check.evens(head, 1);
            x.take(0);
            due("BUILT of none", x.ledger(5), 0);
            due("MOST of none", x.ledger(2), 0);
            CreditShelf y = Check.evens(head, 2);
            y.take(0);
            due("BUILT of one", y.ledger(6), 1);
            due("MOST of one", y.ledger(2), 1);
        }
    }

    /** "since all were BUILT by a TAKE (or since there was none, or since the beginning)" */
    private static void mostSinceWhen() {
        CreditShelf x = Check.shelfOf("23;1;");
        due("at the beginning", x.ledger(2), 0);
        x.put(0, 10, 0);
        x.put(0, 20, 0);
        x.put(0, 30, 0);
        due("since the beginning", x.ledger(2), 3);
        x.take(30);
        due("it stays", x.ledger(2), 3);
        x.put(0, 30, 0);
        due("as many again", x.ledger(2), 3);
        x.take(30);
        x.take(20);
        due("since all were BUILT", x.ledger(2), 1);
        x.put(0, 20, 0);
        due("one more", x.ledger(2), 2);
        x.take(20);
        x.take(10);
        due("there is none", x.ledger(2), 0);
        x.put(0, 40, 0);
        due("since there was none", x.ledger(2), 1);
    }

    /** An ENTRY of 5 with 3 on one side, in a SHELF of 6 of the 8 there were. */
    private static CreditShelf sixOfEight() {
        CreditShelf x = Check.shelfOf("35;1;n01=0,n14=0,n10=0,n18=0,n03=0,n04=0,n00=0,n08=0");
        x.take(14);
        x.take(0);
        lies(x, 4, 3, 10, 18, 4);
        return x;
    }

    /** "BUILT by a TAKE": not by a PUT */
    private static void mostOfAPut() {
        CreditShelf x = sixOfEight();
        due("put(0, 15, 0)", x.put(0, 15, 0), 6);
        due("MOST stays", x.ledger(2), 8);
    }

    /** "BUILT by a TAKE": not by flatten, though all were */
    private static void mostOfFlatten() {
        CreditShelf x = Check.shelfOf("35;1;n10=0,n20=0,n30=0,n40=0");
        x.take(40);
        due("flatten()", x.flatten(), 3);
        due("MOST stays", x.ledger(2), 4);
        due("5 times 2 is less than 3 times 4", x.ahead(), 1);
    }

    // ---- CREDIT

    /** "CREDIT is 0 at first; ... pays the FEE for each ENTRY on its way down, itself with them" */
    private static void creditOfTheFirst() {
        for (int fee = 1; fee <= 9; fee++) {
            CreditShelf x = Check.shelfOf("23;" + fee + ";");
            due("at first", x.ledger(3), 100000);
            x.put(0, 50, 0);
            due("the first, itself alone", x.ledger(3), 100000 + fee);
            x.put(0, 50, 1);
            due("PUT anew", x.ledger(3), 100000 + fee);
            x.put(0, 60, 0);
            due("the second", x.ledger(3), 100000 + 3 * fee);
            x.take(50);
            due("TAKEN from the top, and 1 was BUILT", x.ledger(3), 100000 + 4 * fee - 1);
            x.take(60);
            due("the last one", x.ledger(3), 100000 + 5 * fee - 1);
        }
    }

    /** "(as they lay ahead of all else; the new one lies below them)" */
    private static void creditAsTheyLay() {
        CreditShelf x = Check.shelfOf("23;2;n10=0,n20=0,n30=0,n40=0");
        x.put(0, 50, 0);
        due("five on its way, though it lies at a DEPTH of 3 then", x.ledger(3), 100000 + 20 + 10 - 4);
        due("its DEPTH", x.entry(50, 2), 3);
        CreditShelf y = Check.shelfOf("23;9;n10=0,n20=0");
        y.take(20);
        due("two on its way", y.ledger(3), 100000 + 27 + 18 - 1);
        CreditShelf z = Check.shelfOf(SEVEN);
        z.take(50);
        due("of both sides: none on the way to the least of its RIGHT", z.ledger(3), 100000 + 17 + 1);
    }

    /** "LOWEST is the least that it has been, 0 at first" */
    private static void lowest() {
        CreditShelf x = Check.shelfOf("23;1;");
        due("at first", x.ledger(4), 100000);
        x.put(0, 10, 0);
        due("CREDIT above 0", x.ledger(4), 100000);
        x.flatten();
        due("CREDIT is 0", x.ledger(3), 100000);
        due("LOWEST is 0", x.ledger(4), 100000);
        x.flatten();
        due("CREDIT is 1 below", x.ledger(3), 99999);
        due("LOWEST is, too", x.ledger(4), 99999);
        x.put(0, 20, 0);
        due("CREDIT is above 0", x.ledger(3), 100001);
        due("LOWEST stays", x.ledger(4), 99999);
        x.flatten();
        due("as low again", x.ledger(4), 99999);
        x.flatten();
        due("lower", x.ledger(4), 99997);
    }

    // ---- LOG, REPLAY

    /** A SHELF of the RATIO 2, 3 whose LOG has 58: 50 was PUT and TAKEN again and again. */
    private static CreditShelf logOf58() {
        CreditShelf x = Check.shelfOf("23;1;");
        for (int i = 0; i < 29; i++) {
            x.put(0, 50, 0);
            x.take(50);
        }
        due("in the LOG", x.count(4), 58);
        return x;
    }

    /** "The LOG has the first 60 of all new KEYS that were PUT and of all that were TAKEN" */
    private static void logOfSixty() {
        CreditShelf x = logOf58();
        due("TALL of 58", x.replay(2, 3, 1), NONE);
        x.put(0, 10, 0);
        due("in the LOG", x.count(4), 59);
        due("TALL of 59", x.replay(2, 3, 1), 0);
        x.put(0, 20, 0);
        due("in the LOG", x.count(4), 60);
        due("TALL of 60", x.replay(2, 3, 1), 1);
        x.put(0, 30, 0);
        due("still in the LOG", x.count(4), 60);
        due("without the 61st", x.replay(2, 3, 1), 1);
        due("which lies deeper", x.ledger(0), 2);
        x.take(20);
        due("still in the LOG", x.count(4), 60);
        due("without the 62nd", x.replay(2, 3, 1), 1);
    }

    /** "of all that were TAKEN": the 60th is one */
    private static void sixtiethIsTaken() {
        CreditShelf x = logOf58();
        x.put(0, 10, 0);
        x.take(10);
        due("in the LOG", x.count(4), 60);
        due("TALL of 60", x.replay(2, 3, 1), NONE);
        x.put(0, 10, 0);
        due("without the 61st", x.replay(2, 3, 1), NONE);
    }

    /** "new KEYS that were PUT": not those PUT anew, nor those that were refused, nor what was told or flattened */
    private static void notInTheLog() {
        CreditShelf x = Check.shelfOf("23;1;n10=0,l20=0,c30=0,f40=0");
        due("the text's own are in it", x.count(4), 4);
        x.put(0, 10, 5);
        x.put(0, 10, 1000);
        x.take(20);
        x.take(99);
        x.tell(10);
        x.tell(30);
        x.flatten();
        x.would(50);
        x.drawn(60, 1, 0);
        due("none is new", x.count(4), 4);
        x.tell(40);
        due("a FADING one was TAKEN", x.count(4), 5);
    }

    /** "REPLAY by another RATIO: from an empty SHELF": its own RATIO is one too; of an empty LOG */
    private static void replayOfNoneAndOfItsOwn() {
        for (int r = 0; r < 4; r++) {
            for (int[] ratio : RATIOS) {
                CreditShelf none = Check.shelfOf(HEADS[r]);
                due("COST of none", none.replay(ratio[0], ratio[1], 0), 0);
                due("TALL of none", none.replay(ratio[0], ratio[1], 1), NONE);
            }
            CreditShelf x = Check.evens(HEADS[r], 40);
            for (int i = 0; i < 20; i++) {
                x.take(x.at(0));
            }
            due("COST by its own", x.replay(RATIOS[r][0], RATIOS[r][1], 0), x.ledger(6));
            due("TALL by its own", x.replay(RATIOS[r][0], RATIOS[r][1], 1), x.ledger(0));
        }
    }

    // ---- WOULD, DEAR, AHEAD

    /** "WOULD ...: the SIZE that would be BUILT if it was PUT now (0: none)": on both sides of the edge */
    private static void wouldOfEveryKey() {
        CreditShelf x = Check.shelfOf("23;1;n10=0,n20=0,n30=0,n40=0");
        for (int key = 0; key <= 99; key++) {
            boolean there = key % 10 == 0 && key >= 10 && key <= 40;
            due("would(" + key + ")", x.would(key), there ? NONE : key > 30 ? 4 : 0);
        }
    }

    /** "WOULD": it is what a PUT answers then, of any number up to 39 */
    private static void wouldAsPut() {
        for (String head : HEADS) {
            CreditShelf x = Check.shelfOf(head);
            for (int i = 0; i < 40; i++) {
                int key = 37 * i % 100;
                int would = x.would(key);
                due("put of what would(" + key + ") told", x.put(0, key, 0), would);
            }
        }
    }

    /** "DEAR: for which KEY that is most: of like ones the least" */
    private static void dearOfLikeOnes() {
        CreditShelf up = Check.shelfOf("23;1;n10=0,n20=0,n30=0,n40=0");
        due("which", up.dear(0), 31);
        due("how much", up.dear(1), 4);
        CreditShelf down = Check.shelfOf("23;1;n40=0,n30=0,n20=0,n10=0");
        due("which", down.dear(0), 0);
        due("how much", down.dear(1), 4);
        CreditShelf none = Check.shelfOf("23;1;");
        due("which of none", none.dear(0), 0);
        due("how much of none", none.dear(1), 0);
        CreditShelf two = Check.shelfOf("23;1;n00=0,n01=0");
        due("the least that is not there", two.dear(0), 2);
        due("though it costs nothing", two.dear(1), 0);
    }

    /** "of KEYS 0 to 99": a KEY beyond them would be BUILT, but is none, so it is not DEAR */
    private static void dearOfNoKey() {
        CreditShelf up = Check.shelfOf("23;1;n96=0,n97=0,n98=0,n99=0");
        due("which", up.dear(0), 0);
        due("how much", up.dear(1), 0);
        CreditShelf down = Check.shelfOf("23;1;n03=0,n02=0,n01=0,n00=0");
        due("which", down.dear(0), 4);
        due("how much", down.dear(1), 0);
    }

    /** "DEAR: ... none, if there are 40" */
    private static void dearOfForty() {
        for (String head : HEADS) {
            CreditShelf x = Check.evens(head, 39);
            int which = x.dear(0);
            Check.holds("of 39 there is one", which >= 0);
            due("how much of 39", x.dear(1), x.would(which));
            for (int key = 1; key < 100; key += 2) {
                Check.holds("none costs more, or as much and is less",
                        x.would(key) < x.dear(1) || x.would(key) == x.dear(1) && key >= which);
            }
            x.put(0, 99, 0);
            due("which of 40", x.dear(0), NONE);
            due("how much of 40", x.dear(1), NONE);
            x.take(99);
            due("of 39 again, how much", x.dear(1), x.would(x.dear(0)));
        }
    }

    /** "AHEAD: how many times the ENTRY of the least KEY would have to be TAKEN ... (that one counts)" */
    private static void aheadCountsThatOne() {
        int[] of40 = {14, 11, 17, 9};
        int[] of39 = {14, 10, 16, 8};
        int[] of2 = {1, 1, 1, 1};
        for (int r = 0; r < 4; r++) {
            due("of 40 by " + HEADS[r], Check.evens(HEADS[r], 40).ahead(), of40[r]);
            due("of 39 by " + HEADS[r], Check.evens(HEADS[r], 39).ahead(), of39[r]);
            due("of 2 by " + HEADS[r], Check.evens(HEADS[r], 2).ahead(), of2[r]);
            for (int n = 2; n <= 40; n++) {
                CreditShelf x = Check.evens(HEADS[r], n);
                int left = x.ahead();
                int buildings = x.ledger(5);
                for (; left > 1; left--) {
                    due("so many are left", x.ahead(), left);
                    x.take(x.at(0));
                    due("nothing is BUILT", x.ledger(5), buildings);
                }
                due("one is left", x.ahead(), 1);
                x.take(x.at(0));
                due("all are BUILT", x.ledger(5), buildings + 1);
            }
        }
    }

    /** "(of whatever KIND)" */
    private static void aheadOfWhateverKind() {
        due("of SEALED ones", Check.shelfOf("23;1;s10=0,s20=0,s30=0").ahead(), 2);
        due("of LOCKED ones", Check.shelfOf("23;1;l10=0,l20=0").ahead(), 1);
    }

    /** "none, if never" */
    private static void aheadIfNever() {
        for (String head : HEADS) {
            due("of none", Check.shelfOf(head).ahead(), NONE);
            due("of one", Check.evens(head, 1).ahead(), NONE);
            CreditShelf x = Check.evens(head, 2);
            x.take(0);
            due("of one that is left", x.ahead(), NONE);
            x.take(2);
            due("of none that is left", x.ahead(), NONE);
        }
    }

    // ---- SEEN

    /** "SEEN (6 at most)" */
    private static void sixSeen() {
        CreditShelf x = Check.shelfOf("23;1;");
        for (int i = 1; i <= 6; i++) {
            due("see", x.see(7, 1, true), i);
        }
        due("the seventh", x.see(8, 0, false), FULL);
        due("SORTS of what was refused", x.sorts(8, 0), 31);
        due("count(5)", x.count(5), 6);
    }

    /** "0 be TAKEN, 1 be PUT anew, 2 tell one more each time, 3 stay when it was told": as the ENTRIES themselves do */
    private static void whatCouldBeDone() {
        for (int kind = 0; kind <= 4; kind++) {
            int own = kind;
            boolean[] could = {kindOf(own).take(50) >= 0, kindOf(own).put(0, 50, 5) == 0, tellsMore(own), staysWhenTold(own)};
            for (int what = 0; what <= 3; what++) {
                CreditShelf x = kindOf(own);
                x.see(50, what, could[what]);
                Check.holds("KIND " + kind + " fits what was SEEN of " + what, (x.sorts(50, 0) >> kind & 1) == 1);
                x.forget();
                x.see(50, what, !could[what]);
                Check.holds("KIND " + kind + " does not fit the contrary of " + what, (x.sorts(50, 0) >> kind & 1) == 0);
            }
        }
    }

    private static CreditShelf kindOf(int kind) {
        return Check.shelfOf("23;1;" + "nlcfs".charAt(kind) + "50=3");
    }

    private static boolean tellsMore(int kind) {
        CreditShelf x = kindOf(kind);
        return x.tell(50) < x.tell(50);
    }

    private static boolean staysWhenTold(int kind) {
        CreditShelf x = kindOf(kind);
        x.tell(50);
        return x.count(0) == 1;
    }

    /** "ASK ...: of like ones the least; none, if there are none" */
    private static void askOfLikeOnesAndOfNone() {
        CreditShelf x = Check.shelfOf("23;1;");
        due("of all five: 0 leaves 3 at worst", x.sorts(7, 1), 0);
        x.see(7, 0, true);
        due("of 0, 2, 3: 2 leaves 2 at worst, as 3 does", x.sorts(7, 1), 2);
        x.see(7, 2, false);
        due("of 0, 3: 3 alone tells them apart", x.sorts(7, 1), 3);
        x.see(7, 3, false);
        due("one is left", x.sorts(7, 0), 0b01000);
        due("of one: all are alike", x.sorts(7, 1), 0);
        x.see(7, 3, true);
        due("none is left", x.sorts(7, 0), 0);
        due("nothing to ASK", x.sorts(7, 1), NONE);
        due("of another KEY all are left", x.sorts(8, 0), 31);
    }

    // ---- DRAWS

    private static final BigInteger TWO_TO_31 = BigInteger.ONE.shiftLeft(31);

    /** The SEED behind one more DRAW, by numbers that never wrap. */
    private static int nextSeed(int seed) {
        return BigInteger.valueOf(1103515245).multiply(BigInteger.valueOf(seed)).add(BigInteger.valueOf(12345)).mod(TWO_TO_31)
                .intValueExact();
    }

    /** The SEED ahead of which a DRAW leads to this one. */
    private static int seedAheadOf(int next) {
        BigInteger back = BigInteger.valueOf(1103515245).modInverse(TWO_TO_31);
        return BigInteger.valueOf(next).subtract(BigInteger.valueOf(12345)).multiply(back).mod(TWO_TO_31).intValueExact();
    }

    /** "1103515245 times it and 12345, its rest by 2 to the 31": the least and the greatest SEED, ahead and behind */
    private static void restBy2ToThe31() {
        CreditShelf x = Check.shelfOf("23;1;");
        for (int seed : new int[] {0, 1, 2, 65535, 65536, MAX / 2, MAX - 1, MAX, seedAheadOf(0), seedAheadOf(MAX)}) {
            due("the SEED behind " + seed, x.drawn(1, seed, 2), nextSeed(seed));
            due("and the next", x.drawn(2, seed, 2), nextSeed(nextSeed(seed)));
        }
        due("the least", x.drawn(1, seedAheadOf(0), 2), 0);
        due("the greatest", x.drawn(1, seedAheadOf(MAX), 2), MAX);
    }

    /** "then that by 65536 (rounded down), its rest": a KEY that is drawn is TAKEN, so that TALL tells which */
    private static void roundedDown() {
        int[][] told = {{0, 0}, {65535, 0}, {65536, 1}, {99 * 65536 + 65535, 99}, {100 * 65536 - 1, 99}, {100 * 65536, 0},
            {MAX, 32767 % 100}};
        for (int[] row : told) {
            for (int key = 0; key <= 99; key++) {
                CreditShelf x = Check.shelfOf("23;1;");
                x.put(4, key, 0);
                int tall = key == row[1] ? NONE : 1;
                due("TALL of " + key + " behind the SEED " + row[0], x.drawn(1, seedAheadOf(row[0]), 1), tall);
            }
        }
    }

    private static int seedOf(int key) {
        return seedAheadOf(65536 * key);
    }

    /** "else PUT (if there are not 40)" */
    private static void drawnPutsUpTo40() {
        CreditShelf x = Check.evens("23;1;", 39);
        int dear = x.dear(0);
        int much = x.dear(1);
        Check.holds("one more would cost", much > 0);
        due("with 39 it is PUT", x.drawn(1, seedOf(dear), 0), much);
        int free = 1;
        while (x.would(free) > 0) {
            free += 2;
        }
        x.put(0, free, 0);
        due("with 40 it is not", x.drawn(1, seedOf(dear), 0), 0);
        due("TALL stays", x.drawn(1, seedOf(dear), 1), x.ledger(0));
    }

    /** "is TAKEN if it is there (of whatever KIND)": with 40, too */
    private static void drawnTakesOf40() {
        CreditShelf x = Check.evens("45;1;", 40);
        int most = 0;
        for (int key = 0; key < 80; key += 2) {
            most = x.entry(key, 2) > x.entry(most, 2) ? key : most;
        }
        x.put(4, most, 0);
        boolean only = true;
        for (int key = 0; key < 80; key += 2) {
            only &= key == most || x.entry(key, 2) < x.ledger(0);
        }
        Check.holds("one alone lies deepest", only);
        due("it is TAKEN", x.drawn(1, seedOf(most), 1), x.ledger(0) - 1);
    }

    // ---- refusals

    /** "UNKNOWN ... OUTSIDE ... STATE ... FULL; they change nothing": not even one after the other */
    private static void refusalsChangeNothing() {
        CreditShelf x = Check.evens("34;2;", 38);
        CreditShelf y = Check.evens("34;2;", 38);
        for (CreditShelf z : new CreditShelf[] {x, y}) {
            z.put(4, 99, 9);
            z.put(1, 97, 7);
            for (int i = 0; i < 6; i++) {
                z.see(7, 1, i % 2 == 0);
            }
            z.image();
            Check.write(z, "a".repeat(54));
        }
        long[] answers = {x.letter(0), x.letter('a'), x.shelf(), x.entry(1, 0), x.entry(0, 8), x.as(1, 0), x.as(0, 5), x.at(40),
            x.put(5, 0, 0), x.put(0, 99, 0), x.put(0, 1, 0), x.take(1), x.take(99), x.take(97), x.tell(1), x.ledger(7),
            x.would(100), x.would(1), x.dear(2), x.replay(1, 1, 0), x.see(100, 0, true), x.see(7, 0, true), x.sorts(100, 0),
            x.drawn(0, 0, 0), x.count(8)};
        int[] due = {OUTSIDE, FULL, STATE, UNKNOWN, OUTSIDE, UNKNOWN, OUTSIDE, UNKNOWN, OUTSIDE, STATE, FULL, UNKNOWN, STATE,
            STATE, UNKNOWN, OUTSIDE, OUTSIDE, STATE, OUTSIDE, OUTSIDE, OUTSIDE, FULL, OUTSIDE, OUTSIDE, OUTSIDE};
        for (int i = 0; i < due.length; i++) {
            due("refusal " + i, answers[i], due[i]);
        }
        Check.holds("nothing changed", Check.story(x).equals(Check.story(y)));
    }

    public static void main(String[] args) {
        fortyAtMost();
        keysTo99();
        tallOfNone();
        limitOfEveryNumber();
        limitWhereItGrows();
        deeperThanLimit();
        limitWithTheNewOne();
        asMuchIsNotMore();
        firstOnTheWayUp();
        firstIsTheTop();
        theOtherSideIsTooMuch();
        middleOfEveryNumber();
        eachSideLikewise();
        putAnew();
        takenWithNeitherSide();
        takenWithoutALeftSide();
        takenWithoutARightSide();
        leastOfItsRightSideRightBelow();
        leastOfItsRightSideFurtherDown();
        asMuchIsNotLess();
        ifThereAreAny();
        mostSinceWhen();
        mostOfAPut();
        mostOfFlatten();
        creditOfTheFirst();
        creditAsTheyLay();
        lowest();
        logOfSixty();
        sixtiethIsTaken();
        notInTheLog();
        replayOfNoneAndOfItsOwn();
        wouldOfEveryKey();
        wouldAsPut();
        dearOfLikeOnes();
        dearOfNoKey();
        dearOfForty();
        aheadCountsThatOne();
        aheadOfWhateverKind();
        aheadIfNever();
        sixSeen();
        whatCouldBeDone();
        askOfLikeOnesAndOfNone();
        restBy2ToThe31();
        roundedDown();
        drawnPutsUpTo40();
        drawnTakesOf40();
        refusalsChangeNothing();
        Check.end("TermsBoundaryTest");
    }
}
