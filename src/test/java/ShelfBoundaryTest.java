/** Each sentence of "What it is" and of the promises 1 to 9 that names a boundary case, in a test of its own. */
public final class ShelfBoundaryTest {
    private static final int NONE = -1, UNKNOWN = -101, OUTSIDE = -102, STATE = -103, FULL = -104;
    private static final int MIN = Integer.MIN_VALUE, MAX = Integer.MAX_VALUE;
    private static final String EIGHT = "45;9;n00=0,l11=1,c22=2,f33=3,s44=4,n55=5,n66=6,n99=9";

    private ShelfBoundaryTest() {
    }

    private static void due(String call, long got, long want) {
        Check.due(call, got, want);
    }

    private static CreditShelf page(String text) {
        CreditShelf x = new CreditShelf();
        Check.write(x, text);
        return x;
    }

    private static CreditShelf pageOf(int letters) {
        return page("a".repeat(letters));
    }

    /** A SHELF with all that another SHELF, or a refusal, could touch, and a text on THE PAGE. */
    private static CreditShelf busy(String text) {
        CreditShelf x = Check.shelfOf("23;2;n10=1,c20=2,l30=3,f40=4,s50=5");
        x.see(7, 0, false);
        x.see(99, 2, true);
        x.image();
        x.take(10);
        x.flatten();
        Check.write(x, text);
        return x;
    }

    private static void isShelf(String text, int entries) {
        due("fault() of " + text, page(text).fault(), text.length());
        due("shelf() of " + text, page(text).shelf(), entries);
    }

    private static void isWrongAt(String text, int place) {
        due("fault() of " + text, page(text).fault(), place);
        Check.refused("shelf() of " + text, () -> busy(text), x -> x.shelf(), STATE);
    }

    // ---- what it is

    /** "two digits A and B, the RATIO (B 5 at most; A less than B, twice A more than B)" */
    private static void ratio() {
        for (int a = 0; a <= 9; a++) {
            boolean someB = a >= 2 && a <= 4;
            for (int b = 0; b <= 9; b++) {
                String text = a + "" + b + ";1;";
                if (b <= 5 && a < b && 2 * a > b) {
                    isShelf(text, 0);
                } else {
                    isWrongAt(text, someB ? 1 : 0);
                }
            }
        }
    }

    /** "two digits": the signs right beside the digits are none */
    private static void ratioOfDigits() {
        isWrongAt("/3;1;", 0);
        isWrongAt(":5;1;", 0);
        isWrongAt("2/;1;", 1);
        isWrongAt("4:;1;", 1);
    }

    /** "a digit, the FEE (1 to 9)" */
    private static void fee() {
        for (int fee = 1; fee <= 9; fee++) {
            isShelf("23;" + fee + ";", 0);
            due("count(3)", Check.shelfOf("23;" + fee + ";").count(3), fee);
        }
        isWrongAt("23;0;", 3);
        isWrongAt("23;/;", 3);
        isWrongAt("23;:;", 3);
        isWrongAt("23;10;", 4);
    }

    /** "no ENTRY, or up to eight with ',' between" */
    private static void upToEight() {
        for (int entries = 0; entries <= 8; entries++) {
            isShelf(EIGHT.substring(0, entries == 0 ? 5 : 6 * entries + 4), entries);
        }
        isWrongAt(EIGHT + ",", 52);
        isWrongAt(EIGHT + ",n", 52);
    }

    /** "with ',' between": not behind the last, not ahead of the first */
    private static void betweenAlone() {
        due("fault() of a ',' behind", page("23;1;n00=0,").fault(), 11);
        Check.refused("shelf() of a ',' behind", () -> busy("23;1;n00=0,"), x -> x.shelf(), STATE);
        isWrongAt("23;1;,n00=0", 5);
        isWrongAt("23;1;n00=0,,n01=0", 11);
        isWrongAt("23;1;n00=0n01=0", 10);
    }

    /** "two digits, the KEY ... a digit, the VALUE": the least and the greatest */
    private static void leastAndGreatest() {
        CreditShelf x = Check.shelfOf("23;1;n00=0,n99=9");
        due("the least KEY and VALUE", x.entry(0, 1), 0);
        due("the greatest KEY and VALUE", x.entry(99, 1), 9);
    }

    /** "no KEY twice (the second digit of such a one is wrong)" */
    private static void noKeyTwice() {
        for (int later = 1; later < 8; later++) {
            for (int earlier = 0; earlier < later; earlier++) {
                int place = 5 + 6 * later;
                String key = EIGHT.substring(5 + 6 * earlier + 1, 5 + 6 * earlier + 3);
                String text = EIGHT.substring(0, place + 1) + key;
                due("fault() of " + text, page(text).fault(), place + 2);
                due("fault() ahead of its second digit", page(text.substring(0, place + 2)).fault(), place + 2);
            }
        }
        isWrongAt("23;1;n12=0,l12=0", 13);
        isShelf("23;1;n12=0,n21=0,n11=0,n22=0,n02=0,n20=0", 6);
    }

    // ---- promise 1

    /** "No SHELF." */
    private static void newObject() {
        CreditShelf x = new CreditShelf();
        for (long state : new long[] {x.shelf(), x.next(0), x.put(0, 0, 0), x.flatten(), x.ledger(0), x.would(0), x.dear(0),
            x.replay(2, 3, 0), x.ahead(), x.see(0, 0, true), x.drawn(1, 0, 0), x.image(), x.restore()}) {
            due("of a new object", state, STATE);
        }
        for (long unknown : new long[] {x.entry(0, 0), x.as(0, 0), x.at(0), x.take(0), x.tell(0)}) {
            due("of a new object", unknown, UNKNOWN);
        }
        for (long none : new long[] {x.blank(), x.fault(), x.forget(), x.count(0), x.count(7), x.sorts(0, 1)}) {
            due("of a new object", none, 0);
        }
        due("sorts(0, 0) of a new object", x.sorts(0, 0), 31);
        due("nothing changed", x.digest(), new CreditShelf().digest());
    }

    // ---- promise 2

    /** "OUTSIDE: code (1 to 126)" */
    private static void letterOutside() {
        for (int code : new int[] {MIN, -1, 0, 127, 128, 256 + 'n', MAX}) {
            Check.refused("letter(" + code + ")", () -> busy("23"), x -> x.letter(code), OUTSIDE);
        }
        due("letter(1)", new CreditShelf().letter(1), 1);
        due("letter(126)", new CreditShelf().letter(126), 1);
    }

    /** "FULL: above 54" */
    private static void letterFull() {
        due("letter of 53", pageOf(52).letter('a'), 53);
        due("letter of 54", pageOf(53).letter('a'), 54);
        Check.refused("letter of 55", () -> pageOf(54), x -> x.letter('a'), FULL);
    }

    /** OUTSIDE is told ahead of FULL */
    private static void letterOutsideFirst() {
        for (int code : new int[] {MIN, 0, 127, MAX}) {
            Check.refused("letter(" + code + ") of 55", () -> pageOf(54), x -> x.letter(code), OUTSIDE);
        }
    }

    // ---- promise 3

    /** "THE PAGE is empty: how many letters it had." */
    private static void blankOfEmptyAndFull() {
        for (int letters : new int[] {0, 1, 53, 54}) {
            CreditShelf x = pageOf(letters);
            due("blank() of " + letters, x.blank(), letters);
            due("count(6) then", x.count(6), 0);
            due("blank() again", x.blank(), 0);
            due("letter() then", x.letter('a'), 1);
        }
    }

    // ---- promise 4

    /** "The place (from 0) of the first letter of THE PAGE that no SHELF has there": every letter at every place */
    private static void everyLetterAtEveryPlace() {
        for (int place = 0; place < 54; place++) {
            String ahead = (EIGHT + ",").substring(0, place);
            for (int code = 1; code <= 126; code++) {
                CreditShelf x = page(ahead);
                x.letter(code);
                boolean right = place < 52 && rightAt(place).indexOf(code) >= 0;
                due("fault() of the code " + code + " at " + place, x.fault(), right ? place + 1 : Math.min(place, 52));
            }
        }
    }

    /** The letters that a SHELF that begins like EIGHT can have at a place: there no two KEYS have a like first digit. */
    private static String rightAt(int place) {
        String[] head = {"234", "5", ";", "123456789", ";"};
        String[] entry = {"nlcfs", "0123456789", "0123456789", "=", "0123456789", ","};
        return place < 5 ? head[place] : entry[(place - 5) % 6];
    }

    /** "the first letter": of several wrong ones */
    private static void faultOfSeveral() {
        due("all wrong", pageOf(54).fault(), 0);
        due("two wrong", page("23;0,").fault(), 3);
        due("wrong in two ENTRIES", page("23;1;n00=x,y").fault(), 9);
    }

    /** "how many letters it has, if there is none" */
    private static void faultOfNone() {
        for (int letters = 0; letters <= 52; letters++) {
            due("fault() of " + letters, page(EIGHT.substring(0, letters)).fault(), letters);
        }
    }

    // ---- promise 5

    /** "STATE: it is none": all that only begins like a SHELF, an empty PAGE too */
    private static void shelfOfAPart() {
        for (int letters = 0; letters <= 52; letters++) {
            String text = EIGHT.substring(0, letters);
            if (letters == 5 || letters > 5 && (letters - 5) % 6 == 5) {
                due("shelf() of " + text, page(text).shelf(), (letters - 4) / 6);
            } else {
                Check.refused("shelf() of " + text, () -> busy(text), x -> x.shelf(), STATE);
            }
        }
    }

    /** "STATE: it is none": a refused one keeps THE PAGE, with a SHELF or without */
    private static void refusedShelfKeepsThePage() {
        Check.refused("shelf() of 23;1", () -> page("23;1"), x -> x.shelf(), STATE);
        CreditShelf x = page("23;1");
        x.shelf();
        x.letter(';');
        due("shelf() with the rest of it", x.shelf(), 0);
    }

    /** "THE PAGE is empty then" */
    private static void pageIsEmptyThen() {
        CreditShelf x = page(EIGHT);
        due("shelf()", x.shelf(), 8);
        due("count(6)", x.count(6), 0);
        due("fault()", x.fault(), 0);
        Check.refused("shelf() again", () -> busy(""), y -> y.shelf(), STATE);
    }

    /** "another one is gone, with all that was" */
    private static void anotherIsGone() {
        CreditShelf x = busy("35;1;n20=3");
        for (int i = 0; i < 20; i++) {
            x.flatten();
        }
        Check.holds("CREDIT and LOWEST are below 0", x.ledger(3) < 100000 && x.ledger(4) < 100000);
        due("shelf()", x.shelf(), 1);
        int[] counts = {1, 3, 5, 1, 1, 0, 0, 2};
        for (int what = 0; what <= 7; what++) {
            due("count(" + what + ")", x.count(what), counts[what]);
        }
        int[] ledger = {0, 0, 1, 100001, 100000, 0, 0};
        for (int what = 0; what <= 6; what++) {
            due("ledger(" + what + ")", x.ledger(what), ledger[what]);
        }
        int[] entry = {0, 3, 0, 1, NONE, NONE, NONE, 0};
        for (int what = 0; what <= 7; what++) {
            due("entry(20, " + what + ")", x.entry(20, what), entry[what]);
        }
        due("one that was there", x.entry(30, 0), UNKNOWN);
        due("SEEN of 7", x.sorts(7, 0), 31);
        due("SEEN of 99", x.sorts(99, 0), 31);
        due("the IMAGE", x.restore(), STATE);
    }

    /** "another one is gone": the new one has no ENTRY, so nothing is BUILT, TAKEN or told of it */
    private static void anotherOfNone() {
        CreditShelf x = busy("35;1;");
        due("shelf()", x.shelf(), 0);
        due("flatten()", x.flatten(), 0);
        due("take(20)", x.take(20), UNKNOWN);
        due("next(-1)", x.next(-1), NONE);
        CreditShelf y = Check.shelfOf("35;1;");
        Check.write(y, "35;1;");
        y.shelf();
        Check.holds("all is as with another that had none", Check.story(x).equals(Check.story(y)));
    }

    // ---- promise 6

    private static CreditShelf threeAndEdges() {
        return Check.shelfOf("34;1;n50=1,n00=2,n99=3");
    }

    /** "what = 0 KIND ... 7 how many KEYS are less ... OUTSIDE" */
    private static void entryOutside() {
        for (int what : new int[] {MIN, -1, 8, MAX}) {
            for (int key : new int[] {0, 50, 99}) {
                Check.refused("entry(" + key + ", " + what + ")", () -> threeAndEdges(), x -> x.entry(key, what), OUTSIDE);
            }
        }
        due("entry(99, 0)", threeAndEdges().entry(99, 0), 0);
        due("entry(99, 7)", threeAndEdges().entry(99, 7), 2);
    }

    /** "UNKNOWN: no such KEY" */
    private static void entryUnknown() {
        for (int key : new int[] {MIN, -1, 1, 49, 51, 98, 100, MAX}) {
            for (int what = 0; what <= 7; what++) {
                due("entry(" + key + ", " + what + ")", threeAndEdges().entry(key, what), UNKNOWN);
            }
            Check.refused("entry(" + key + ", 0)", () -> threeAndEdges(), x -> x.entry(key, 0), UNKNOWN);
            due("of an empty SHELF", Check.shelfOf("34;1;").entry(key, 0), UNKNOWN);
            due("of no SHELF", new CreditShelf().entry(key, 0), UNKNOWN);
        }
        CreditShelf x = threeAndEdges();
        x.take(99);
        due("of one that was TAKEN", x.entry(99, 1), UNKNOWN);
    }

    /** UNKNOWN is told ahead of OUTSIDE */
    private static void entryUnknownFirst() {
        for (int what : new int[] {MIN, -1, 8, MAX}) {
            for (int key : new int[] {MIN, -1, 1, 100, MAX}) {
                due("entry(" + key + ", " + what + ")", threeAndEdges().entry(key, what), UNKNOWN);
                due("of no SHELF", new CreditShelf().entry(key, what), UNKNOWN);
            }
        }
    }

    /** "4, 5 the KEY right below it on the LEFT, the RIGHT (NONE), 6 the KEY right above it (NONE)" */
    private static void entryNone() {
        int[][] sides = {{50, 0, 99, NONE}, {0, NONE, NONE, 50}, {99, NONE, NONE, 50}};
        for (int[] row : sides) {
            for (int what = 4; what <= 6; what++) {
                due("entry(" + row[0] + ", " + what + ")", threeAndEdges().entry(row[0], what), row[what - 3]);
            }
        }
    }

    // ---- promise 7

    private static CreditShelf eachKind() {
        return Check.shelfOf("23;2;n10=1,l20=2,c30=3,f40=4,s50=5");
    }

    /** "taken as a KIND: the KEY; NONE: it is none such"; all are ENTRIES, a SEALED one is LOCKED, too */
    private static void asEveryKind() {
        boolean[][] such = {{true, false, false, false, false}, {true, true, false, false, false},
            {true, false, true, false, false}, {true, false, false, true, false}, {true, true, false, false, true}};
        for (int own = 0; own <= 4; own++) {
            for (int kind = 0; kind <= 4; kind++) {
                int key = 10 * own + 10;
                due("as(" + key + ", " + kind + ")", eachKind().as(key, kind), such[own][kind] ? key : NONE);
            }
        }
        due("as(0, 0): the KEY, not whether", Check.shelfOf("23;1;n00=5").as(0, 0), 0);
    }

    /** "OUTSIDE" */
    private static void asOutside() {
        for (int kind : new int[] {MIN, -1, 5, MAX}) {
            for (int key = 10; key <= 50; key += 10) {
                int own = key;
                Check.refused("as(" + key + ", " + kind + ")", () -> eachKind(), x -> x.as(own, kind), OUTSIDE);
            }
        }
    }

    /** "UNKNOWN", ahead of OUTSIDE */
    private static void asUnknownFirst() {
        for (int key : new int[] {MIN, -1, 0, 11, 99, 100, MAX}) {
            for (int kind : new int[] {MIN, -1, 0, 4, 5, MAX}) {
                due("as(" + key + ", " + kind + ")", eachKind().as(key, kind), UNKNOWN);
                due("of no SHELF", new CreditShelf().as(key, kind), UNKNOWN);
            }
        }
        Check.refused("as(11, 0)", () -> eachKind(), x -> x.as(11, 0), UNKNOWN);
    }

    // ---- promise 8

    /** "UNKNOWN: there are not so many" */
    private static void atOfNotSoMany() {
        for (int number : new int[] {MIN, -1, 3, 4, MAX}) {
            Check.refused("at(" + number + ")", () -> threeAndEdges(), x -> x.at(number), UNKNOWN);
        }
        for (int number : new int[] {MIN, -1, 0, 1, MAX}) {
            due("at(" + number + ") of none", Check.shelfOf("34;1;").at(number), UNKNOWN);
            due("at(" + number + ") of no SHELF", new CreditShelf().at(number), UNKNOWN);
        }
    }

    /** "The KEY of so many lesser ones (0 the least)": of three, of 40 */
    private static void atOfTheLeastAndTheGreatest() {
        due("at(0)", threeAndEdges().at(0), 0);
        due("at(2)", threeAndEdges().at(2), 99);
        CreditShelf x = Check.evens("34;1;", 40);
        due("at(0) of 40", x.at(0), 0);
        due("at(39) of 40", x.at(39), 78);
        due("at(40) of 40", x.at(40), UNKNOWN);
    }

    // ---- promise 9

    /** "The least KEY above a number; NONE: there is none" */
    private static void nextOfEveryNumber() {
        int[][] told = {{MIN, 0}, {-1, 0}, {0, 50}, {1, 50}, {49, 50}, {50, 99}, {98, 99}, {99, NONE}, {100, NONE}, {MAX, NONE}};
        for (int[] row : told) {
            due("next(" + row[0] + ")", threeAndEdges().next(row[0]), row[1]);
            due("next(" + row[0] + ") of none", Check.shelfOf("34;1;").next(row[0]), NONE);
        }
        CreditShelf x = Check.shelfOf("34;1;n98=0");
        due("next(97) of 98", x.next(97), 98);
        due("next(98) of 98", x.next(98), NONE);
    }

    /** "STATE: no SHELF" */
    private static void nextWithoutAShelf() {
        for (int number : new int[] {MIN, -1, 0, 99, MAX}) {
            Check.refused("next(" + number + ")", () -> page("23;"), x -> x.next(number), STATE);
        }
    }

    public static void main(String[] args) {
        ratio();
        ratioOfDigits();
        fee();
        upToEight();
        betweenAlone();
        leastAndGreatest();
        noKeyTwice();
        newObject();
        letterOutside();
        letterFull();
        letterOutsideFirst();
        blankOfEmptyAndFull();
        everyLetterAtEveryPlace();
        faultOfSeveral();
        faultOfNone();
        shelfOfAPart();
        refusedShelfKeepsThePage();
        pageIsEmptyThen();
        anotherIsGone();
        anotherOfNone();
        entryOutside();
        entryUnknown();
        entryUnknownFirst();
        entryNone();
        asEveryKind();
        asOutside();
        asUnknownFirst();
        atOfNotSoMany();
        atOfTheLeastAndTheGreatest();
        nextOfEveryNumber();
        nextWithoutAShelf();
        Check.end("ShelfBoundaryTest");
    }
}
