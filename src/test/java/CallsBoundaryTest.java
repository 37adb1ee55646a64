import java.math.BigInteger;
import java.util.ArrayList;
import java.util.List;

/** Each sentence of the promises 10 to 26 that names a boundary case, in a test of its own. */
public final class CallsBoundaryTest {
    private static final int NONE = -1, UNKNOWN = -101, OUTSIDE = -102, STATE = -103, FULL = -104;
    private static final int MIN = Integer.MIN_VALUE, MAX = Integer.MAX_VALUE;
    private static final int[] NO_KEYS = {MIN, -1, 100, MAX};
    private static final String KINDS = "23;2;n10=1,l20=2,c30=3,f40=4,s50=5";

    private CallsBoundaryTest() {
    }

    private static void due(String call, long got, long want) {
        Check.due(call, got, want);
    }

    /** An ENTRY of each KIND, something SEEN, an IMAGE that is not like what is there now, and letters on THE PAGE. */
    private static CreditShelf busy() {
        CreditShelf x = Check.shelfOf(KINDS);
        x.see(7, 0, false);
        x.image();
        x.take(10);
        x.put(0, 60, 6);
        x.see(99, 2, true);
        Check.write(x, "23;1");
        return x;
    }

    /** The even KEYS, 40 in all: 10 is SEALED, 12 LOCKED, 14 COUNTED, 16 FADING. */
    private static CreditShelf forty() {
        CreditShelf x = Check.evens("34;3;", 39);
        x.put(4, 10, 1);
        x.put(1, 12, 2);
        x.put(2, 14, 3);
        x.put(3, 16, 4);
        x.image();
        x.put(0, 78, 5);
        due("forty: count(0)", x.count(0), 40);
        return x;
    }

    private static CreditShelf none() {
        return Check.shelfOf("23;1;");
    }

    private static CreditShelf noShelf() {
        CreditShelf x = new CreditShelf();
        Check.write(x, "23;1");
        return x;
    }

    /** A call is refused, and changes nothing, whatever there is. */
    private static void outsideAlways(String call, Check.Call done) {
        Check.refused(call, () -> busy(), done, OUTSIDE);
        Check.refused(call + " of 40", () -> forty(), done, OUTSIDE);
        Check.refused(call + " of none", () -> none(), done, OUTSIDE);
        Check.refused(call + " of no SHELF", () -> noShelf(), done, OUTSIDE);
    }

    // ---- promise 10

    /** "OUTSIDE: kind (0 to 4)", ahead of STATE and FULL */
    private static void putKind() {
        for (int kind : new int[] {MIN, -1, 5, MAX}) {
            for (int key : new int[] {1, 10, 50}) {
                outsideAlways("put(" + kind + ", " + key + ", 0)", x -> x.put(kind, key, 0));
            }
        }
        due("put(0, 1, 0)", busy().put(0, 1, 0), 0);
        due("put(4, 1, 0)", busy().put(4, 1, 0), 0);
    }

    /** "key (0 to 99)", ahead of STATE and FULL */
    private static void putKey() {
        for (int key : NO_KEYS) {
            outsideAlways("put(0, " + key + ", 0)", x -> x.put(0, key, 0));
        }
        due("put(0, 0, 0)", busy().put(0, 0, 0), 0);
        due("put(0, 99, 0)", none().put(0, 99, 0), 0);
    }

    /** "value (0 to 999)", ahead of STATE and FULL */
    private static void putValue() {
        for (int value : new int[] {MIN, -1, 1000, MAX}) {
            for (int key : new int[] {1, 10, 50}) {
                outsideAlways("put(0, " + key + ", " + value + ")", x -> x.put(0, key, value));
            }
        }
        for (int value : new int[] {0, 999}) {
            CreditShelf x = none();
            due("put(0, 1, " + value + ")", x.put(0, 1, value), 0);
            due("VALUE", x.entry(1, 1), value);
            due("take(1)", x.take(1), value);
        }
    }

    /** "STATE: no SHELF" */
    private static void putWithoutAShelf() {
        for (int key : new int[] {0, 50, 99}) {
            Check.refused("put(0, " + key + ", 0)", () -> noShelf(), x -> x.put(0, key, 0), STATE);
        }
    }

    /** "STATE: ... one that is SEALED is there", whatever is to come to its place; ahead of FULL */
    private static void putOnASealedOne() {
        for (int kind = 0; kind <= 4; kind++) {
            int own = kind;
            Check.refused("put(" + kind + ", 50, 5)", () -> busy(), x -> x.put(own, 50, 5), STATE);
            Check.refused("put(" + kind + ", 10, 1) of 40", () -> forty(), x -> x.put(own, 10, 1), STATE);
        }
    }

    /** "STATE: ... one that is SEALED": a LOCKED one, and all others, can be PUT anew, as one that is SEALED, too */
    private static void putOnTheOthers() {
        for (int key = 10; key <= 40; key += 10) {
            for (int kind = 0; kind <= 4; kind++) {
                CreditShelf x = Check.shelfOf(KINDS);
                due("put(" + kind + ", " + key + ", 9)", x.put(kind, key, 9), 0);
                due("KIND", x.entry(key, 0), kind);
                due("VALUE", x.entry(key, 1), 9);
                due("as SEALED", x.as(key, 4), kind == 4 ? key : NONE);
                due("and again", x.put(0, key, 0), kind == 4 ? STATE : 0);
            }
        }
    }

    /** "FULL: there are 40": one short of it, and at it */
    private static void putFull() {
        CreditShelf x = Check.evens("34;3;", 39);
        Check.holds("the 40th", x.put(0, 99, 0) >= 0);
        for (int key : new int[] {1, 51, 97, 99}) {
            for (int kind = 0; kind <= 4; kind++) {
                int own = kind;
                Check.refused("put(" + kind + ", " + key + ", 0) of 40", () -> forty(), y -> y.put(own, key, 0), FULL);
            }
        }
    }

    /** "FULL: there are 40": a KEY that is there needs no room, so it is PUT anew */
    private static void putAnewOf40() {
        for (int key : new int[] {0, 12, 14, 16, 78}) {
            CreditShelf x = forty();
            due("put(2, " + key + ", 999)", x.put(2, key, 999), 0);
            due("KIND", x.entry(key, 0), 2);
            due("VALUE", x.entry(key, 1), 999);
            due("count(0)", x.count(0), 40);
        }
    }

    // ---- promise 11

    /** "UNKNOWN", of no SHELF too */
    private static void takeUnknown() {
        for (int key : new int[] {MIN, -1, 0, 11, 99, 100, MAX}) {
            Check.refused("take(" + key + ")", () -> busy(), x -> x.take(key), UNKNOWN);
            Check.refused("take(" + key + ") of none", () -> none(), x -> x.take(key), UNKNOWN);
            Check.refused("take(" + key + ") of no SHELF", () -> noShelf(), x -> x.take(key), UNKNOWN);
        }
        Check.refused("take(10) again", () -> busy(), x -> x.take(10), UNKNOWN);
    }

    /** "STATE: it is LOCKED"; a SEALED one is LOCKED, too */
    private static void takeLocked() {
        Check.refused("take(20)", () -> busy(), x -> x.take(20), STATE);
        Check.refused("take(50)", () -> busy(), x -> x.take(50), STATE);
        Check.refused("take(12) of 40", () -> forty(), x -> x.take(12), STATE);
        Check.refused("take(10) of 40", () -> forty(), x -> x.take(10), STATE);
        due("an ENTRY", busy().take(60), 6);
        due("a COUNTED one", busy().take(30), 3);
        due("a FADING one", busy().take(40), 4);
        CreditShelf x = busy();
        x.put(0, 20, 8);
        due("one that was LOCKED", x.take(20), 8);
    }

    /** "its VALUE": the least and the greatest, of the first and of the last one */
    private static void takeTheLast() {
        CreditShelf x = Check.shelfOf("23;1;n00=0");
        x.put(0, 99, 999);
        due("take(99)", x.take(99), 999);
        due("take(0)", x.take(0), 0);
        due("count(0)", x.count(0), 0);
        due("take(0) again", x.take(0), UNKNOWN);
    }

    // ---- promise 12

    /** "UNKNOWN", of no SHELF too */
    private static void tellUnknown() {
        for (int key : new int[] {MIN, -1, 0, 11, 99, 100, MAX}) {
            Check.refused("tell(" + key + ")", () -> busy(), x -> x.tell(key), UNKNOWN);
            Check.refused("tell(" + key + ") of none", () -> none(), x -> x.tell(key), UNKNOWN);
            Check.refused("tell(" + key + ") of no SHELF", () -> noShelf(), x -> x.tell(key), UNKNOWN);
        }
    }

    /** "a COUNTED one has 1 more then (999 at most)" */
    private static void tellTo999() {
        CreditShelf x = none();
        x.put(2, 5, 997);
        for (int told : new int[] {997, 998, 999, 999, 999}) {
            due("tell(5)", x.tell(5), told);
        }
        due("VALUE", x.entry(5, 1), 999);
        x.put(2, 6, 999);
        due("tell(6)", x.tell(6), 999);
        due("VALUE", x.entry(6, 1), 999);
        x.put(2, 7, 0);
        due("tell(7)", x.tell(7), 0);
        due("VALUE", x.entry(7, 1), 1);
    }

    /** "a COUNTED one": the others tell the same each time */
    private static void tellOfTheOthers() {
        for (int key : new int[] {20, 50, 60}) {
            CreditShelf x = busy();
            String before = Check.told(x);
            due("tell(" + key + ")", x.tell(key), key / 10);
            due("tell(" + key + ") again", x.tell(key), key / 10);
            Check.holds("nothing changed", Check.told(x).equals(before));
        }
    }

    /** "a FADING one is TAKEN": the last one, one of 40, and one that lets all be BUILT */
    private static void tellOfAFadingOne() {
        CreditShelf x = Check.shelfOf("23;1;f99=9");
        due("tell(99)", x.tell(99), 9);
        due("count(0)", x.count(0), 0);
        due("MOST", x.ledger(2), 0);
        due("CREDIT", x.ledger(3), 100002);
        due("in the LOG", x.count(4), 2);
        due("tell(99) again", x.tell(99), UNKNOWN);
        CreditShelf y = forty();
        due("tell(16)", y.tell(16), 4);
        due("count(0)", y.count(0), 39);
        CreditShelf z = Check.shelfOf("23;1;f10=1,n20=2");
        due("tell(10)", z.tell(10), 1);
        due("BUILT", z.ledger(6), 1);
    }

    /** "a FADING one is TAKEN": told, it does just what a take does */
    private static void tellTakesLikeTake() {
        CreditShelf x = forty();
        CreditShelf y = forty();
        due("tell and take", x.tell(16), y.take(16));
        Check.holds("both are alike", Check.story(x).equals(Check.story(y)));
    }

    // ---- promise 13

    /** "STATE: no SHELF" */
    private static void flattenWithoutAShelf() {
        Check.refused("flatten()", () -> noShelf(), x -> x.flatten(), STATE);
    }

    /** "of none nothing is BUILT" */
    private static void flattenOfNone() {
        CreditShelf x = none();
        String before = Check.told(x);
        due("flatten()", x.flatten(), 0);
        Check.holds("nothing changed", Check.told(x).equals(before));
        CreditShelf y = Check.shelfOf("23;1;n50=0");
        y.take(50);
        y.flatten();
        int[] ledger = {NONE, 0, 0, 100002, 100000, 0, 0};
        for (int what = 0; what <= 6; what++) {
            due("ledger(" + what + ")", y.ledger(what), ledger[what]);
        }
    }

    /** "CREDIT pays for it": of one, of 40, and of what is flat already */
    private static void flattenIsPaid() {
        CreditShelf x = Check.shelfOf("23;1;n50=0");
        due("flatten() of one", x.flatten(), 1);
        int[] ledger = {0, 0, 1, 100000, 100000, 1, 1};
        for (int what = 0; what <= 6; what++) {
            due("ledger(" + what + ")", x.ledger(what), ledger[what]);
        }
        CreditShelf y = forty();
        for (int i = 0; i < 3; i++) {
            int credit = y.ledger(3);
            int cost = y.ledger(6);
            due("flatten() of 40", y.flatten(), 40);
            due("CREDIT", y.ledger(3), credit - 40);
            due("COST", y.ledger(6), cost + 40);
            due("TALL", y.ledger(0), 5);
        }
    }

    /** "CREDIT pays for it": below 0 too, as often as it is done */
    private static void flattenBelowZero() {
        CreditShelf x = forty();
        int credit = x.ledger(3);
        for (int i = 0; i < 400; i++) {
            x.flatten();
        }
        due("CREDIT", x.ledger(3), credit - 16000);
        due("LOWEST", x.ledger(4), credit - 16000);
    }

    // ---- promise 14

    /** "what = 0 TALL ... 6 their COST. OUTSIDE", ahead of STATE */
    private static void ledgerOutside() {
        for (int what : new int[] {MIN, -1, 7, MAX}) {
            outsideAlways("ledger(" + what + ")", x -> x.ledger(what));
        }
    }

    /** "STATE: no SHELF" */
    private static void ledgerWithoutAShelf() {
        for (int what = 0; what <= 6; what++) {
            int own = what;
            Check.refused("ledger(" + what + ")", () -> noShelf(), x -> x.ledger(own), STATE);
        }
    }

    /** "0 TALL (NONE)": all that is told of a SHELF with no ENTRY */
    private static void ledgerOfNone() {
        int[] ledger = {NONE, 0, 0, 100000, 100000, 0, 0};
        for (int what = 0; what <= 6; what++) {
            due("ledger(" + what + ")", none().ledger(what), ledger[what]);
        }
    }

    // ---- promise 15

    /** "OUTSIDE: key (0 to 99)", ahead of STATE */
    private static void wouldOutside() {
        for (int key : NO_KEYS) {
            outsideAlways("would(" + key + ")", x -> x.would(key));
        }
        due("would(0)", none().would(0), 0);
        due("would(99)", none().would(99), 0);
    }

    /** "STATE: no SHELF, or there are 40": one short of it, and at it, of a KEY that is there, too */
    private static void wouldOf40() {
        for (int key : new int[] {0, 1, 10, 50, 99}) {
            Check.refused("would(" + key + ") of no SHELF", () -> noShelf(), x -> x.would(key), STATE);
            Check.refused("would(" + key + ") of 40", () -> forty(), x -> x.would(key), STATE);
        }
        CreditShelf x = forty();
        x.take(0);
        Check.holds("would(1) of 39", x.would(1) >= 0);
        due("would(10) of 39", x.would(10), NONE);
    }

    /** "NONE: that KEY is there" */
    private static void wouldOfOneThatIsThere() {
        for (int key = 20; key <= 60; key += 10) {
            due("would(" + key + ")", busy().would(key), NONE);
        }
        due("would of one that was TAKEN", busy().would(10), 0);
    }

    // ---- promise 16

    /** "what = 0 which, 1 how much ... OUTSIDE", ahead of STATE and NONE */
    private static void dearOutside() {
        for (int what : new int[] {MIN, -1, 2, MAX}) {
            outsideAlways("dear(" + what + ")", x -> x.dear(what));
        }
    }

    /** "NONE": there are 40; "STATE: no SHELF" */
    private static void dearOf40() {
        for (int what = 0; what <= 1; what++) {
            int own = what;
            due("dear(" + what + ") of 40", forty().dear(what), NONE);
            due("dear(" + what + ") of none", none().dear(what), 0);
            Check.refused("dear(" + what + ") of no SHELF", () -> noShelf(), x -> x.dear(own), STATE);
        }
    }

    // ---- promise 17

    /** "OUTSIDE: a, b (as a text may tell them)", ahead of STATE */
    private static void replayRatio() {
        int[] numbers = {MIN, MIN + 1, -5, -1, 0, 1, 2, 3, 4, 5, 6, 7, 8, 9, 10, 1 << 30, MAX - 1, MAX};
        for (int a : numbers) {
            for (int b : numbers) {
                boolean told = a == 2 && b == 3 || a == 3 && (b == 4 || b == 5) || a == 4 && b == 5;
                due("replay(" + a + ", " + b + ", 1)", busy().replay(a, b, 1) == OUTSIDE ? 0 : 1, told ? 1 : 0);
                due("of no SHELF", noShelf().replay(a, b, 0), told ? STATE : OUTSIDE);
            }
        }
        outsideAlways("replay(1, 2, 0)", x -> x.replay(1, 2, 0));
        outsideAlways("replay(5, 6, 0)", x -> x.replay(5, 6, 0));
    }

    /** "OUTSIDE: ... what", ahead of STATE */
    private static void replayWhat() {
        for (int what : new int[] {MIN, -1, 2, MAX}) {
            outsideAlways("replay(2, 3, " + what + ")", x -> x.replay(2, 3, what));
            outsideAlways("replay(4, 5, " + what + ")", x -> x.replay(4, 5, what));
        }
    }

    /** "1 TALL (NONE)": an empty LOG, and one in which all were TAKEN; "STATE: no SHELF" */
    private static void replayNone() {
        CreditShelf x = Check.shelfOf("23;1;n10=0,n20=0");
        x.take(10);
        x.take(20);
        due("TALL when all were TAKEN", x.replay(3, 4, 1), NONE);
        due("COST of the one that was left", x.replay(3, 4, 0), 1);
        due("TALL of an empty LOG", none().replay(3, 4, 1), NONE);
        due("COST of an empty LOG", none().replay(3, 4, 0), 0);
        Check.refused("replay(2, 3, 0)", () -> noShelf(), y -> y.replay(2, 3, 0), STATE);
        Check.refused("replay(2, 3, 1)", () -> noShelf(), y -> y.replay(2, 3, 1), STATE);
    }

    // ---- promise 18

    /** "AHEAD; NONE. STATE: no SHELF." */
    private static void aheadOfNone() {
        Check.refused("ahead()", () -> noShelf(), x -> x.ahead(), STATE);
        due("ahead() of none", none().ahead(), NONE);
        due("ahead() of one", Check.shelfOf("23;1;n00=0").ahead(), NONE);
        due("ahead() of two", Check.shelfOf("23;1;n00=0,n99=0").ahead(), 1);
        due("ahead() of 40", forty().ahead(), 11);
    }

    // ---- promise 19

    private static CreditShelf seen(int times) {
        CreditShelf x = busy();
        for (int i = 2; i < times; i++) {
            x.see(8, i % 4, i % 2 == 0);
        }
        due("SEEN", x.count(5), times);
        return x;
    }

    /** "OUTSIDE: key (0 to 99)", ahead of STATE and FULL */
    private static void seeKey() {
        for (int key : NO_KEYS) {
            outsideAlways("see(" + key + ", 0, true)", x -> x.see(key, 0, true));
            Check.refused("see(" + key + ", 0, false), the seventh", () -> seen(6), x -> x.see(key, 0, false), OUTSIDE);
        }
        due("see(0, 0, true)", busy().see(0, 0, true), 3);
        due("see(99, 0, true)", busy().see(99, 0, true), 3);
    }

    /** "what (0 to 3)", ahead of STATE and FULL */
    private static void seeWhat() {
        for (int what : new int[] {MIN, -1, 4, MAX}) {
            outsideAlways("see(7, " + what + ", true)", x -> x.see(7, what, true));
            Check.refused("see(7, " + what + ", false), the seventh", () -> seen(6), x -> x.see(7, what, false), OUTSIDE);
        }
        due("see(7, 0, true)", busy().see(7, 0, true), 3);
        due("see(7, 3, true)", busy().see(7, 3, true), 3);
    }

    /** "STATE: no SHELF"; but of a KEY of which there is no ENTRY it may be */
    private static void seeWithoutAShelf() {
        Check.refused("see(7, 0, true)", () -> noShelf(), x -> x.see(7, 0, true), STATE);
        Check.refused("see(0, 3, false)", () -> noShelf(), x -> x.see(0, 3, false), STATE);
        due("see of none", none().see(7, 0, true), 1);
    }

    /** "FULL": one short of it, and at it */
    private static void seeFull() {
        due("the fifth", seen(4).see(7, 1, true), 5);
        due("the sixth", seen(5).see(7, 1, true), 6);
        for (int what = 0; what <= 3; what++) {
            int own = what;
            Check.refused("see(7, " + what + ", true), the seventh", () -> seen(6), x -> x.see(7, own, true), FULL);
            Check.refused("see(0, " + what + ", false), the seventh", () -> seen(6), x -> x.see(0, own, false), FULL);
        }
    }

    // ---- promise 20

    /** "Nothing is SEEN any more: how much was.": nothing, something, all of it; there is room again */
    private static void forgetOfNothingAndOfSix() {
        due("forget() of no SHELF", noShelf().forget(), 0);
        due("forget() of nothing", none().forget(), 0);
        for (int times = 2; times <= 6; times++) {
            CreditShelf x = seen(times);
            due("forget()", x.forget(), times);
            due("forget() again", x.forget(), 0);
            due("SORTS of 7", x.sorts(7, 0), 31);
            due("SORTS of 8", x.sorts(8, 0), 31);
            due("SORTS of 99", x.sorts(99, 0), 31);
            due("see()", x.see(7, 0, true), 1);
        }
    }

    // ---- promise 21

    /** "OUTSIDE: key, what" */
    private static void sortsOutside() {
        for (int key : NO_KEYS) {
            outsideAlways("sorts(" + key + ", 0)", x -> x.sorts(key, 0));
            outsideAlways("sorts(" + key + ", 1)", x -> x.sorts(key, 1));
        }
        for (int what : new int[] {MIN, -1, 2, MAX}) {
            outsideAlways("sorts(7, " + what + ")", x -> x.sorts(7, what));
        }
    }

    /** "0 SORTS, as bits, 1 ASK (NONE)": all of them, and none; of the least and the greatest KEY, without a SHELF too */
    private static void sortsOfAllAndOfNone() {
        for (int key : new int[] {0, 7, 99}) {
            due("sorts(" + key + ", 0) of no SHELF", noShelf().sorts(key, 0), 31);
            due("sorts(" + key + ", 1) of no SHELF", noShelf().sorts(key, 1), 0);
            CreditShelf x = none();
            x.see(key, 2, true);
            due("COUNTED alone", x.sorts(key, 0), 4);
            x.see(key, 2, false);
            due("none is left", x.sorts(key, 0), 0);
            due("nothing to ASK", x.sorts(key, 1), NONE);
            due("of the next KEY", x.sorts(key == 99 ? 98 : key + 1, 0), 31);
        }
    }

    // ---- promise 22

    /** "OUTSIDE: times (1 to 60)", ahead of STATE */
    private static void drawnTimes() {
        for (int times : new int[] {MIN, -1, 0, 61, MAX}) {
            for (int what = 0; what <= 2; what++) {
                int own = what;
                outsideAlways("drawn(" + times + ", 0, " + what + ")", x -> x.drawn(times, 0, own));
            }
        }
        due("drawn(1, 0, 2)", none().drawn(1, 0, 2), 12345);
        long seed = 0;
        for (int i = 0; i < 60; i++) {
            seed = (1103515245L * seed + 12345L) & 0x7fffffffL;
        }
        due("drawn(60, 0, 2)", none().drawn(60, 0, 2), seed);
    }

    /** "seed (0 at least)", ahead of STATE */
    private static void drawnSeed() {
        for (int seed : new int[] {MIN, MIN + 1, -2, -1}) {
            outsideAlways("drawn(1, " + seed + ", 2)", x -> x.drawn(1, seed, 2));
        }
        for (int seed : new int[] {0, 1, MAX - 1, MAX}) {
            BigInteger next = BigInteger.valueOf(1103515245).multiply(BigInteger.valueOf(seed)).add(BigInteger.valueOf(12345))
                    .mod(BigInteger.ONE.shiftLeft(31));
            due("drawn(1, " + seed + ", 2)", none().drawn(1, seed, 2), next.longValueExact());
        }
    }

    /** "OUTSIDE: ... what", ahead of STATE */
    private static void drawnWhat() {
        for (int what : new int[] {MIN, -1, 3, MAX}) {
            outsideAlways("drawn(1, 0, " + what + ")", x -> x.drawn(1, 0, what));
            outsideAlways("drawn(60, " + MAX + ", " + what + ")", x -> x.drawn(60, MAX, what));
        }
    }

    /** "1 TALL (NONE)": the only one is TAKEN; "STATE: no SHELF" */
    private static void drawnNone() {
        for (int what = 0; what <= 2; what++) {
            int own = what;
            Check.refused("drawn(1, 0, " + what + ")", () -> noShelf(), x -> x.drawn(1, 0, own), STATE);
        }
        // the SEED 0 leads to 12345, and that to the KEY 0
        due("the only one is TAKEN", Check.shelfOf("23;1;l00=0").drawn(1, 0, 1), NONE);
        due("at no cost", Check.shelfOf("23;1;l00=0").drawn(1, 0, 0), 0);
        due("one of two is TAKEN", Check.shelfOf("23;1;s00=0,n01=0").drawn(1, 0, 1), 0);
        due("at the cost of the other", Check.shelfOf("23;1;s00=0,n01=0").drawn(1, 0, 0), 1);
        due("the first is PUT", none().drawn(1, 0, 1), 0);
    }

    /** "as they would be": nothing is done, with none and with 40 */
    private static void drawnChangesNothing() {
        for (Check.Making making : new Check.Making[] {() -> none(), () -> busy(), () -> forty()}) {
            CreditShelf x = making.make();
            for (int what = 0; what <= 2; what++) {
                x.drawn(60, MAX, what);
                x.drawn(1, 0, what);
            }
            Check.holds("nothing changed", Check.story(x).equals(Check.story(making.make())));
        }
    }

    // ---- promises 23, 24

    /** "STATE: no SHELF": no IMAGE is kept then */
    private static void imageWithoutAShelf() {
        Check.refused("image()", () -> noShelf(), x -> x.image(), STATE);
        CreditShelf x = noShelf();
        x.image();
        due("restore()", x.restore(), STATE);
        x.letter(';');
        x.shelf();
        due("restore() then", x.restore(), STATE);
    }

    /** "An IMAGE is kept (one; the latest): how many ENTRIES": of none and of 40 */
    private static void imageOfNoneAndOf40() {
        CreditShelf x = none();
        due("image() of none", x.image(), 0);
        x.put(0, 0, 0);
        due("restore() of none", x.restore(), 0);
        due("TALL", x.ledger(0), NONE);
        CreditShelf y = forty();
        due("restore() of 39", y.restore(), 39);
        due("the 40th is gone", y.entry(78, 0), UNKNOWN);
        Check.holds("there is room", y.put(0, 99, 0) >= 0);
        due("image() of 40", y.image(), 40);
        y.take(0);
        y.take(2);
        due("restore() of 40", y.restore(), 40);
        due("there is no room", y.put(0, 1, 0), FULL);
    }

    /** "(one; the latest)" */
    private static void imageIsTheLatest() {
        CreditShelf x = Check.shelfOf("23;1;n10=1");
        x.image();
        x.put(0, 20, 2);
        x.image();
        x.put(0, 30, 3);
        due("restore()", x.restore(), 2);
        x.take(10);
        due("restore() once more", x.restore(), 2);
        due("what it kept", x.entry(10, 1), 1);
    }

    /** "STATE: none was kept" */
    private static void restoreOfNoImage() {
        Check.refused("restore() of no SHELF", () -> noShelf(), x -> x.restore(), STATE);
        Check.refused("restore() of none", () -> none(), x -> x.restore(), STATE);
        Check.refused("restore()", () -> Check.shelfOf(KINDS), x -> x.restore(), STATE);
    }

    /** "STATE: ... or there is another SHELF since": the very same text is another one; a refused one is none */
    private static void restoreOfAnotherShelf() {
        CreditShelf x = Check.shelfOf(KINDS);
        x.image();
        Check.write(x, "23;1");
        x.shelf();
        due("restore() behind a refused one", x.restore(), 5);
        x.blank();
        Check.write(x, KINDS);
        due("shelf()", x.shelf(), 5);
        due("restore() behind another", x.restore(), STATE);
        due("it stays as it is", x.count(0), 5);
        due("image() of it", x.image(), 5);
        due("restore() of that", x.restore(), 5);
    }

    /** "An IMAGE keeps all but THE PAGE and how often something was done." */
    private static void imageKeepsAllBut() {
        CreditShelf x = busy();
        x.blank();
        CreditShelf y = busy();
        y.blank();
        x.image();
        for (int i = 0; i < 30; i++) {
            x.put(i % 3, 61 + i, i);
            x.flatten();
        }
        x.put(2, 20, 999);
        x.put(4, 60, 0);
        x.tell(30);
        x.tell(40);
        x.forget();
        x.see(8, 1, true);
        x.see(7, 3, true);
        x.see(7, 2, true);
        Check.write(x, "xyz");
        x.restore();
        due("THE PAGE is not brought back", x.blank(), 3);
        due("how often a SHELF was read", x.count(7), 1);
        due("all else is", x.digest(), y.digest());
        Check.holds("all else is", Check.told(x).equals(Check.told(y)));
    }

    // ---- promise 25

    /** "OUTSIDE" */
    private static void countOutside() {
        for (int what : new int[] {MIN, -1, 8, MAX}) {
            outsideAlways("count(" + what + ")", x -> x.count(what));
        }
    }

    /** "0 ENTRIES, 1, 2 A, B, 3 the FEE (0 for all: no SHELF)" */
    private static void countWithoutAShelf() {
        for (int what = 0; what <= 7; what++) {
            due("count(" + what + ")", noShelf().count(what), what == 6 ? 4 : 0);
        }
        int[] ofNone = {0, 2, 3, 1, 0, 0, 0, 1};
        for (int what = 0; what <= 7; what++) {
            due("count(" + what + ") of none", none().count(what), ofNone[what]);
        }
    }

    /** "4 in the LOG, 5 what is SEEN, 6 letters of THE PAGE": the most there can be */
    private static void countOfTheMost() {
        CreditShelf x = forty();
        for (int i = 0; i < 30; i++) {
            x.take(0);
            x.put(0, 0, 0);
            x.see(i, 0, true);
        }
        Check.write(x, "b".repeat(60));
        int[] most = {40, 3, 4, 3, 60, 6, 54, 1};
        for (int what = 0; what <= 7; what++) {
            due("count(" + what + ")", x.count(what), most[what]);
        }
    }

    /** "7 how often a SHELF was read": a refused one was not */
    private static void countOfShelves() {
        CreditShelf x = new CreditShelf();
        for (int i = 1; i <= 20; i++) {
            Check.write(x, "23;");
            x.shelf();
            due("count(7)", x.count(7), i - 1);
            Check.write(x, "1;");
            x.shelf();
            due("count(7)", x.count(7), i);
        }
    }

    // ---- promise 26

    private static long mixed(List<Long> numbers) {
        BigInteger h = BigInteger.valueOf(1373);
        for (long number : numbers) {
            h = h.multiply(BigInteger.valueOf(31)).add(BigInteger.valueOf(number));
        }
        // the low 64 bits, by numbers that never wrap themselves
        return h.longValue();
    }

    private static void addEntries(CreditShelf x, List<Long> numbers) {
        int entries = x.count(0);
        for (int i = 0; i < entries; i++) {
            int key = x.at(i);
            numbers.add((long) key);
            for (int what = 0; what <= 6; what++) {
                numbers.add((long) x.entry(key, what));
            }
        }
    }

    private static long digestOf(CreditShelf x, long would50, String page) {
        List<Long> numbers = new ArrayList<>();
        addEntries(x, numbers);
        for (int what = 0; what <= 6; what++) {
            numbers.add((long) x.ledger(what));
        }
        numbers.add(would50);
        numbers.add((long) x.ahead());
        numbers.add((long) x.replay(2, 3, 0));
        numbers.add((long) x.replay(2, 3, 1));
        numbers.add((long) x.sorts(7, 0));
        numbers.add((long) x.sorts(7, 1));
        for (char letter : page.toCharArray()) {
            numbers.add((long) letter);
        }
        for (int what = 0; what <= 7; what++) {
            numbers.add((long) x.count(what));
        }
        return mixed(numbers);
    }

    /** "as longs, wrapping": the fewest numbers there can be, and the most */
    private static void digestWraps() {
        List<Long> fewest = new ArrayList<>(List.of(31L, 0L, 0L, 0L, 0L, 0L, 0L, 0L, 0L, 0L));
        due("of a new object", new CreditShelf().digest(), mixed(fewest));
        due("of none", none().digest(), digestOf(none(), 0, ""));
        due("of each KIND", busy().digest(), digestOf(busy(), NONE, "23;1"));
        CreditShelf x = forty();
        String page = "\1~".repeat(27);
        Check.write(x, page);
        due("of 40 and 54 letters", x.digest(), digestOf(x, NONE, page));
    }

    /** "would() of 50 (NONE, if there are 40)": one short of it, and at it, and where 50 is there */
    private static void digestOf40() {
        CreditShelf x = forty();
        x.take(50);
        int would = x.would(50);
        Check.holds("of 39 it is told", would >= 0);
        due("of 39", x.digest(), digestOf(x, would, ""));
        CreditShelf y = forty();
        y.take(50);
        y.put(0, 51, 0);
        due("would(50) of 40", y.would(50), STATE);
        due("of 40", y.digest(), digestOf(y, NONE, ""));
        CreditShelf there = Check.shelfOf("23;1;n50=0");
        due("where 50 is there", there.digest(), digestOf(there, NONE, ""));
        CreditShelf built = Check.shelfOf("23;1;n10=0,n20=0,n30=0,n40=0");
        due("where it would be BUILT", built.digest(), digestOf(built, 4, ""));
    }

    /** "with a SHELF ledger() ...": without one those numbers are not there */
    private static void digestWithoutAShelf() {
        List<Long> numbers = new ArrayList<>(List.of(31L, 0L));
        for (char letter : "23;1".toCharArray()) {
            numbers.add((long) letter);
        }
        numbers.addAll(List.of(0L, 0L, 0L, 0L, 0L, 0L, 4L, 0L));
        due("of no SHELF", noShelf().digest(), mixed(numbers));
    }

    private static void whatIsDone() {
        putKind();
        putKey();
        putValue();
        putWithoutAShelf();
        putOnASealedOne();
        putOnTheOthers();
        putFull();
        putAnewOf40();
        takeUnknown();
        takeLocked();
        takeTheLast();
        tellUnknown();
        tellTo999();
        tellOfTheOthers();
        tellOfAFadingOne();
        tellTakesLikeTake();
        flattenWithoutAShelf();
        flattenOfNone();
        flattenIsPaid();
        flattenBelowZero();
    }

    private static void whatWouldBe() {
        ledgerOutside();
        ledgerWithoutAShelf();
        ledgerOfNone();
        wouldOutside();
        wouldOf40();
        wouldOfOneThatIsThere();
        dearOutside();
        dearOf40();
        replayRatio();
        replayWhat();
        replayNone();
        aheadOfNone();
    }

    private static void whatIsSeen() {
        seeKey();
        seeWhat();
        seeWithoutAShelf();
        seeFull();
        forgetOfNothingAndOfSix();
        sortsOutside();
        sortsOfAllAndOfNone();
        drawnTimes();
        drawnSeed();
        drawnWhat();
        drawnNone();
        drawnChangesNothing();
    }

    private static void whatIsToldOfAll() {
        imageWithoutAShelf();
        imageOfNoneAndOf40();
        imageIsTheLatest();
        restoreOfNoImage();
        restoreOfAnotherShelf();
        imageKeepsAllBut();
        countOutside();
        countWithoutAShelf();
        countOfTheMost();
        countOfShelves();
        digestWraps();
        digestOf40();
        digestWithoutAShelf();
    }

    public static void main(String[] args) {
        whatIsDone();
        whatWouldBe();
        whatIsSeen();
        whatIsToldOfAll();
        Check.end("CallsBoundaryTest");
    }
}
