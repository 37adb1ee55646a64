/** Each promise of the document by hand: ordinary inputs, its edges, wrong inputs. */
public final class PromiseTest {
    private static final int NONE = -1, UNKNOWN = -101, OUTSIDE = -102, STATE = -103, FULL = -104;
    private static final int MIN = Integer.MIN_VALUE, MAX = Integer.MAX_VALUE;
    /** A chain to the right, with an ENTRY of four of the KINDS. */
    private static final String CHAIN = "23;2;n10=1,c20=2,l30=3,f40=4";
    private static final String EIGHT = "45;9;n00=0,l11=1,c22=2,f33=3,s44=4,n55=5,n66=6,n99=9";

    private PromiseTest() {
    }

    private static void due(String call, long got, long want) {
        Check.due(call, got, want);
    }

    /** Calls of which each may be refused: the digest tells that nothing changed. */
    private static void unchanged(String what, CreditShelf x, long before) {
        due(what + " changes nothing", x.digest(), before);
    }

    /** A SHELF of the even KEYS from 0 to 78. */
    private static CreditShelf forty() {
        CreditShelf x = Check.shelfOf("34;3;");
        for (int i = 0; i < 40; i++) {
            x.put(i == 5 ? 4 : 0, 2 * i, i);
        }
        due("forty: count(0)", x.count(0), 40);
        return x;
    }

    private static long mixed(long... numbers) {
        long h = 1373;
        for (long number : numbers) {
            h = 31 * h + number;
        }
        return h;
    }

    private static void newObject() {
        CreditShelf x = new CreditShelf();
        for (int what = 0; what <= 7; what++) {
            due("1: count(" + what + ")", x.count(what), 0);
        }
        due("1: ledger(0)", x.ledger(0), STATE);
        due("1: next(0)", x.next(0), STATE);
        due("1: restore()", x.restore(), STATE);
        due("1: digest()", x.digest(), mixed(31, 0, 0, 0, 0, 0, 0, 0, 0, 0));
        due("1: NONE", CreditShelf.NONE, NONE);
        due("1: UNKNOWN", CreditShelf.UNKNOWN, UNKNOWN);
        due("1: OUTSIDE", CreditShelf.OUTSIDE, OUTSIDE);
        due("1: STATE", CreditShelf.STATE, STATE);
        due("1: FULL", CreditShelf.FULL, FULL);
    }

    private static void letter() {
        CreditShelf x = new CreditShelf();
        for (int code : new int[] {0, 127, -1, MIN, MAX}) {
            due("2: letter(" + code + ")", x.letter(code), OUTSIDE);
        }
        due("2: letter(1)", x.letter(1), 1);
        due("2: letter(126)", x.letter(126), 2);
        for (int i = 3; i <= 54; i++) {
            due("2: letter of " + i, x.letter('a'), i);
        }
        long before = x.digest();
        due("2: letter of 55", x.letter('a'), FULL);
        due("2: letter(0) of 55", x.letter(0), OUTSIDE);
        unchanged("2: letter of 55", x, before);
    }

    private static void blank() {
        CreditShelf x = new CreditShelf();
        due("3: blank()", x.blank(), 0);
        Check.write(x, "xyz");
        due("3: blank()", x.blank(), 3);
        due("3: count(6)", x.count(6), 0);
        due("3: fault()", x.fault(), 0);
        due("3: letter", x.letter('a'), 1);
    }

    private static void faultAt(String text, int place) {
        CreditShelf x = new CreditShelf();
        Check.write(x, text);
        due("4: fault() of " + text, x.fault(), place);
        due("4: count(6) of " + text, x.count(6), text.length());
    }

    private static void fault() {
        faultAt("", 0);
        for (String a : new String[] {"0", "1", "5", "6", "9", "/", ":", ";", "n"}) {
            faultAt(a, 0);
        }
        for (String right : new String[] {"2", "3", "4", "23", "34", "35", "45", "23;", "23;1", "23;9", "23;1;"}) {
            faultAt(right, right.length());
        }
        for (String wrongB : new String[] {"20", "21", "22", "24", "25", "33", "36", "32", "44", "46", "47", "43", "2;", "2n"}) {
            faultAt(wrongB, 1);
        }
        faultAt("23,", 2);
        faultAt("23;0", 3);
        faultAt("23;:", 3);
        faultAt("23;/", 3);
        faultAt("23;1,", 4);
        for (String wrongKind : new String[] {"23;1;x", "23;1;N", "23;1;,", "23;1;0", "23;1;;", "23;1;\1"}) {
            faultAt(wrongKind, 5);
        }
        for (String kind : new String[] {"n", "l", "c", "f", "s"}) {
            faultAt("23;1;" + kind, 6);
            faultAt("23;1;" + kind + "00=0", 10);
        }
        faultAt("23;1;na", 6);
        faultAt("23;1;n0:", 7);
        faultAt("23;1;n00", 8);
        faultAt("23;1;n00;", 8);
        faultAt("23;1;n00==", 9);
        faultAt("23;1;n00=00", 10);
        faultAt("23;1;n00=0;", 10);
        faultAt("23;1;n00=0,", 11);
        faultAt("23;1;n00=0,,", 11);
        faultAt("23;1;n12=0,l12", 13);
        faultAt("23;1;n12=0,l1", 13);
        faultAt("23;1;n12=0,l21=0,c02=0,f11=0,s22=0", 34);
        faultAt("23;1;n12=0,l21=0,c02=0,f11=0,s12=0", 31);
        faultAt(EIGHT, 52);
        faultAt(EIGHT + ",", 52);
        faultAt(EIGHT + ",n", 52);
        faultAt("1" + EIGHT, 0);
    }

    private static void shelf() {
        CreditShelf x = new CreditShelf();
        due("5: shelf() of nothing", x.shelf(), STATE);
        for (String none : new String[] {"2", "23", "23;", "23;1", "23;1;n", "23;1;n0", "23;1;n00", "23;1;n00=", "23;1;n00=0,",
            "23;1;n00=0,n00=0", "24;1;", "23;0;", EIGHT + ","}) {
            Check.write(x, none);
            long before = x.digest();
            due("5: shelf() of " + none, x.shelf(), STATE);
            unchanged("5: shelf() of " + none, x, before);
            x.blank();
        }
        Check.write(x, EIGHT);
        due("5: shelf()", x.shelf(), 8);
        due("5: count(6)", x.count(6), 0);
        for (int i = 0; i < 8; i++) {
            due("5: VALUE", x.entry(new int[] {0, 11, 22, 33, 44, 55, 66, 99}[i], 1), new int[] {0, 1, 2, 3, 4, 5, 6, 9}[i]);
            due("5: KIND", x.entry(new int[] {0, 11, 22, 33, 44, 55, 66, 99}[i], 0), new int[] {0, 1, 2, 3, 4, 0, 0, 0}[i]);
        }
        x.see(7, 0, true);
        x.image();
        for (int i = 0; i < 50; i++) {
            x.flatten();
        }
        Check.holds("5: LOWEST is below 0", x.ledger(4) < 100000);
        Check.write(x, "35;1;");
        due("5: another shelf()", x.shelf(), 0);
        due("5: its digest()", x.digest(), mixed(NONE, 0, 0, 100000, 100000, 0, 0, 0, NONE, 0, NONE, 31, 0, 0, 3, 5, 1, 0, 0, 0, 2));
        due("5: restore() behind another", x.restore(), STATE);
        Check.write(x, "23;1;n03=0,n02=0,n01=0,n00=0,n99=0");
        due("5: PUT one after the other", x.shelf(), 5);
        due("5: the first is on top", x.entry(3, 2), 0);
        Check.write(x, "23;1;n04=0,n03=0,n02=0,n01=0,n00=0");
        due("5: too deep", x.shelf(), 5);
        due("5: BUILT", x.ledger(6), 4);
    }

    private static void entry() {
        CreditShelf x = Check.shelfOf(CHAIN);
        int[][] told = {{10, 0, 1, 0, 4, NONE, 20, NONE, 0}, {20, 2, 2, 1, 3, NONE, 30, 10, 1}, {40, 3, 4, 3, 1, NONE, NONE, 30, 3}};
        for (int[] row : told) {
            for (int what = 0; what <= 7; what++) {
                due("6: entry(" + row[0] + ", " + what + ")", x.entry(row[0], what), row[what + 1]);
            }
        }
        for (int what : new int[] {-1, 8, MIN, MAX}) {
            due("6: entry(20, " + what + ")", x.entry(20, what), OUTSIDE);
            due("6: entry(21, " + what + ")", x.entry(21, what), UNKNOWN);
        }
        for (int key : new int[] {-1, 0, 21, 99, 100, MIN, MAX}) {
            due("6: entry(" + key + ", 0)", x.entry(key, 0), UNKNOWN);
        }
        CreditShelf y = Check.shelfOf("23;1;n50=0,n25=0,n75=0,n00=0,n99=0");
        due("6: LEFT", y.entry(50, 4), 25);
        due("6: RIGHT", y.entry(50, 5), 75);
        due("6: SIZE", y.entry(25, 3), 2);
        due("6: above, from the LEFT", y.entry(0, 6), 25);
        due("6: above, from the RIGHT", y.entry(99, 6), 75);
        due("6: KEYS less", y.entry(99, 7), 4);
        due("6: no SHELF", new CreditShelf().entry(0, 0), UNKNOWN);
        due("6: no SHELF", new CreditShelf().entry(0, 9), UNKNOWN);
    }

    private static void as() {
        CreditShelf x = Check.shelfOf("23;2;n10=1,l20=2,c30=3,f40=4,s50=5");
        int[] kindsOf = {0b00001, 0b00011, 0b00101, 0b01001, 0b10011};
        for (int own = 0; own <= 4; own++) {
            int key = 10 * own + 10;
            for (int kind = 0; kind <= 4; kind++) {
                due("7: as(" + key + ", " + kind + ")", x.as(key, kind), (kindsOf[own] >> kind & 1) == 1 ? key : NONE);
            }
            for (int kind : new int[] {-1, 5, MIN, MAX}) {
                due("7: as(" + key + ", " + kind + ")", x.as(key, kind), OUTSIDE);
            }
        }
        due("7: as(11, 5)", x.as(11, 5), UNKNOWN);
        due("7: as(-1, 0)", x.as(-1, 0), UNKNOWN);
        due("7: as(100, 0)", x.as(100, 0), UNKNOWN);
        due("7: no SHELF", new CreditShelf().as(0, 0), UNKNOWN);
    }

    private static void at() {
        CreditShelf x = Check.shelfOf("23;1;n50=0,n00=0,n99=0");
        due("8: at(0)", x.at(0), 0);
        due("8: at(1)", x.at(1), 50);
        due("8: at(2)", x.at(2), 99);
        for (int number : new int[] {-1, 3, 99, MIN, MAX}) {
            due("8: at(" + number + ")", x.at(number), UNKNOWN);
        }
        due("8: no SHELF", new CreditShelf().at(0), UNKNOWN);
    }

    private static void next() {
        CreditShelf x = Check.shelfOf("23;1;n50=0,n00=0,n99=0");
        int[][] told = {{MIN, 0}, {-1, 0}, {0, 50}, {49, 50}, {50, 99}, {98, 99}, {99, NONE}, {100, NONE}, {MAX, NONE}};
        for (int[] row : told) {
            due("9: next(" + row[0] + ")", x.next(row[0]), row[1]);
        }
        due("9: of none", Check.shelfOf("23;1;").next(0), NONE);
        due("9: no SHELF", new CreditShelf().next(0), STATE);
    }

    private static void put() {
        CreditShelf x = Check.shelfOf(CHAIN);
        due("10: put(0, 50, 999)", x.put(0, 50, 999), 4);
        due("10: paid for five, less four", x.ledger(3), 100000 + 20 + 10 - 4);
        due("10: on top of what was BUILT", x.entry(30, 6), 10);
        due("10: the lesser middle one", x.entry(30, 3), 4);
        due("10: LEFT of it", x.entry(30, 4), 20);
        due("10: RIGHT of it", x.entry(30, 5), 40);
        due("10: VALUE", x.entry(50, 1), 999);
        long log = x.count(4);
        due("10: PUT anew", x.put(4, 50, 0), 0);
        due("10: KIND is another", x.entry(50, 0), 4);
        due("10: VALUE is another", x.entry(50, 1), 0);
        due("10: nothing is paid", x.ledger(3), 100026);
        due("10: nothing in the LOG", x.count(4), log);
        long before = x.digest();
        due("10: SEALED", x.put(0, 50, 1), STATE);
        due("10: a LOCKED one is PUT anew", x.put(1, 30, 3), 0);
        int[][] outside = {{-1, 1, 1}, {5, 1, 1}, {0, -1, 1}, {0, 100, 1}, {0, 1, -1}, {0, 1, 1000}, {MIN, 1, 1}, {0, MAX, 1},
            {0, 1, MIN}, {5, 50, 1}, {0, 50, 1000}};
        for (int[] row : outside) {
            due("10: put OUTSIDE", x.put(row[0], row[1], row[2]), OUTSIDE);
            due("10: put OUTSIDE without a SHELF", new CreditShelf().put(row[0], row[1], row[2]), OUTSIDE);
        }
        unchanged("10: refusals", x, before);
        due("10: no SHELF", new CreditShelf().put(0, 1, 1), STATE);
        due("10: put(4, 0, 0)", x.put(4, 0, 0), 0);
        due("10: put(0, 99, 0)", x.put(0, 99, 0), 0);
        CreditShelf y = forty();
        long whole = y.digest();
        due("10: the 41st", y.put(0, 1, 1), FULL);
        due("10: SEALED, of 40", y.put(0, 10, 1), STATE);
        due("10: OUTSIDE, of 40", y.put(0, 100, 1), OUTSIDE);
        unchanged("10: the 41st", y, whole);
        due("10: PUT anew, of 40", y.put(2, 0, 7), 0);
        due("10: is PUT anew", y.entry(0, 1), 7);
    }

    private static void take() {
        CreditShelf x = Check.shelfOf("23;1;n50=5,n25=2,n75=7,n60=6,n90=9,n65=1");
        due("11: CREDIT", x.ledger(3), 100015);
        due("11: take(50)", x.take(50), 5);
        due("11: the least of its RIGHT side is there", x.entry(60, 2), 0);
        due("11: with its LEFT side", x.entry(60, 4), 25);
        due("11: and its RIGHT side", x.entry(60, 5), 75);
        due("11: that one's RIGHT side is where it was", x.entry(75, 4), 65);
        due("11: SIZE", x.entry(60, 3), 5);
        due("11: SIZE", x.entry(75, 3), 3);
        due("11: CREDIT", x.ledger(3), 100016);
        due("11: gone", x.entry(50, 0), UNKNOWN);
        due("11: take(75)", x.take(75), 7);
        due("11: right below it", x.entry(90, 4), 65);
        due("11: none BUILT", x.ledger(5), 0);
        due("11: MOST", x.ledger(2), 6);
        due("11: take(25)", x.take(25), 2);
        due("11: all BUILT", x.entry(65, 2), 0);
        due("11: MOST is how many there are", x.ledger(2), 3);
        due("11: CREDIT", x.ledger(3), 100017);
        due("11: COST", x.ledger(6), 3);
        due("11: take(65)", x.take(65), 1);
        due("11: take(60)", x.take(60), 6);
        due("11: one alone is BUILT", x.ledger(5), 2);
        due("11: take(90)", x.take(90), 9);
        due("11: none is not", x.ledger(5), 2);
        due("11: MOST of none", x.ledger(2), 0);
        due("11: CREDIT", x.ledger(3), 100020);
        due("11: in the LOG", x.count(4), 12);
        CreditShelf y = Check.shelfOf("23;2;n10=1,l20=2,s30=3");
        long before = y.digest();
        due("11: LOCKED", y.take(20), STATE);
        due("11: SEALED", y.take(30), STATE);
        for (int key : new int[] {-1, 11, 100, MIN, MAX}) {
            due("11: take(" + key + ")", y.take(key), UNKNOWN);
        }
        unchanged("11: refusals", y, before);
        due("11: the RIGHT side comes to its place", y.take(10), 1);
        due("11: at the top", y.entry(20, 6), NONE);
        due("11: no SHELF", new CreditShelf().take(0), UNKNOWN);
        CreditShelf z = Check.shelfOf("45;1;n30=0,n20=0,n10=0,n25=0");
        due("11: no RIGHT side", z.take(30), 0);
        due("11: the LEFT side comes to its place", z.entry(20, 6), NONE);
    }

    private static void tell() {
        CreditShelf x = Check.shelfOf("23;2;n10=1,l20=2,c30=3,f40=4,s50=5");
        due("12: an ENTRY", x.tell(10), 1);
        due("12: again", x.tell(10), 1);
        due("12: LOCKED", x.tell(20), 2);
        due("12: SEALED", x.tell(50), 5);
        due("12: COUNTED", x.tell(30), 3);
        due("12: one more", x.tell(30), 4);
        due("12: entry() does not count", x.entry(30, 1), 5);
        x.put(2, 30, 998);
        due("12: 998", x.tell(30), 998);
        due("12: 999", x.tell(30), 999);
        due("12: 999 at most", x.tell(30), 999);
        long credit = x.ledger(3);
        long depth = x.entry(40, 2);
        due("12: FADING", x.tell(40), 4);
        due("12: is TAKEN", x.entry(40, 0), UNKNOWN);
        due("12: pays", x.ledger(3), credit + 2 * (depth + 1));
        due("12: in the LOG", x.count(4), 6);
        due("12: once", x.tell(40), UNKNOWN);
        for (int key : new int[] {-1, 11, 100, MIN, MAX}) {
            due("12: tell(" + key + ")", x.tell(key), UNKNOWN);
        }
        due("12: no SHELF", new CreditShelf().tell(0), UNKNOWN);
        CreditShelf y = Check.shelfOf("23;1;f10=1,n20=2");
        y.tell(10);
        due("12: all BUILT by it", y.ledger(5), 1);
        due("12: MOST", y.ledger(2), 1);
    }

    private static void flatten() {
        due("13: no SHELF", new CreditShelf().flatten(), STATE);
        CreditShelf none = Check.shelfOf("23;1;");
        due("13: of none", none.flatten(), 0);
        due("13: nothing is BUILT", none.ledger(5), 0);
        CreditShelf x = Check.shelfOf("23;1;n10=1,n20=2,n30=3,n40=4");
        x.take(40);
        due("13: flatten()", x.flatten(), 3);
        due("13: TALL", x.ledger(0), 1);
        due("13: on top", x.entry(20, 3), 3);
        due("13: MOST stays", x.ledger(2), 4);
        due("13: CREDIT pays", x.ledger(3), 100000 + 10 + 4 - 3);
        due("13: not in the LOG", x.count(4), 5);
        due("13: BUILDINGS", x.ledger(5), 1);
        for (int i = 0; i < 5; i++) {
            x.flatten();
        }
        due("13: CREDIT below 0", x.ledger(3), 99996);
        due("13: LOWEST", x.ledger(4), 99996);
        due("13: COST", x.ledger(6), 18);
    }

    private static void ledger() {
        CreditShelf x = Check.shelfOf("23;1;");
        int[] ofNone = {NONE, 0, 0, 100000, 100000, 0, 0};
        for (int what = 0; what <= 6; what++) {
            due("14: ledger(" + what + ") of none", x.ledger(what), ofNone[what]);
        }
        x.put(0, 5, 0);
        due("14: TALL of one", x.ledger(0), 0);
        due("14: LIMIT of one", x.ledger(1), 0);
        x.flatten();
        x.flatten();
        due("14: LOWEST", x.ledger(4), 99999);
        x.put(0, 6, 0);
        due("14: CREDIT", x.ledger(3), 100001);
        due("14: LOWEST stays", x.ledger(4), 99999);
        x.take(5);
        due("14: paid first, then BUILT", x.ledger(3), 100001);
        for (int what : new int[] {-1, 7, MIN, MAX}) {
            due("14: ledger(" + what + ")", x.ledger(what), OUTSIDE);
            due("14: OUTSIDE ahead of STATE", new CreditShelf().ledger(what), OUTSIDE);
        }
        due("14: no SHELF", new CreditShelf().ledger(3), STATE);
        String[] ratios = {"23", "34", "35", "45"};
        int[][] limits = {{0, 0, 1, 2, 3, 3, 4, 4, 5}, {0, 0, 2, 3, 4, 5, 6, 6, 7}, {0, 0, 1, 2, 2, 3, 3, 3, 4},
            {0, 0, 3, 4, 6, 7, 8, 8, 9}};
        for (int r = 0; r < 4; r++) {
            CreditShelf y = Check.shelfOf(ratios[r] + ";1;");
            for (int n = 0; n <= 8; n++) {
                due("14: LIMIT of " + n + " by " + ratios[r], y.ledger(1), limits[r][n]);
                y.put(0, 10 * n, 0);
            }
        }
    }

    private static void would() {
        CreditShelf x = Check.shelfOf(CHAIN);
        long before = x.digest();
        due("15: would(50)", x.would(50), 4);
        due("15: would(99)", x.would(99), 4);
        due("15: would(31)", x.would(31), 4);
        due("15: would(29)", x.would(29), 0);
        due("15: would(0)", x.would(0), 0);
        due("15: would(30)", x.would(30), NONE);
        for (int key : new int[] {-1, 100, MIN, MAX}) {
            due("15: would(" + key + ")", x.would(key), OUTSIDE);
            due("15: OUTSIDE ahead of STATE", new CreditShelf().would(key), OUTSIDE);
        }
        unchanged("15: would", x, before);
        due("15: no SHELF", new CreditShelf().would(0), STATE);
        CreditShelf y = forty();
        due("15: of 40", y.would(1), STATE);
        due("15: of 40, there", y.would(2), STATE);
        due("15: of 40, OUTSIDE", y.would(100), OUTSIDE);
        y.take(0);
        due("15: of 39", y.would(1), 0);
        due("15: of 39, there", y.would(2), NONE);
    }

    private static void dear() {
        CreditShelf x = Check.shelfOf(CHAIN);
        long before = x.digest();
        due("16: which", x.dear(0), 31);
        due("16: how much", x.dear(1), 4);
        for (int what : new int[] {-1, 2, MIN, MAX}) {
            due("16: dear(" + what + ")", x.dear(what), OUTSIDE);
            due("16: OUTSIDE ahead of STATE", new CreditShelf().dear(what), OUTSIDE);
        }
        unchanged("16: dear", x, before);
        due("16: no SHELF", new CreditShelf().dear(0), STATE);
        CreditShelf y = Check.shelfOf("45;1;n00=0,n01=0");
        due("16: the least, of like ones", y.dear(0), 2);
        due("16: nothing", y.dear(1), 0);
        due("16: the least of all", Check.shelfOf("45;1;n50=0").dear(0), 0);
        CreditShelf z = forty();
        due("16: of 40", z.dear(0), NONE);
        due("16: of 40", z.dear(1), NONE);
        due("16: of 40, OUTSIDE", z.dear(2), OUTSIDE);
    }

    private static void replay() {
        CreditShelf x = Check.shelfOf("45;1;");
        due("17: of none, COST", x.replay(2, 3, 0), 0);
        due("17: of none, TALL", x.replay(2, 3, 1), NONE);
        for (int key = 0; key < 8; key++) {
            x.put(0, key, 0);
        }
        x.flatten();
        x.put(0, 0, 5);
        long before = x.digest();
        due("17: COST by its own", x.replay(4, 5, 0), 0);
        due("17: TALL by its own", x.replay(4, 5, 1), 7);
        due("17: COST by 2, 3", x.replay(2, 3, 0), 8);
        due("17: TALL by 2, 3", x.replay(2, 3, 1), 5);
        for (int a = -1; a <= 7; a++) {
            for (int b = -1; b <= 7; b++) {
                boolean ratio = a == 2 && b == 3 || a == 3 && b == 4 || a == 3 && b == 5 || a == 4 && b == 5;
                due("17: replay(" + a + ", " + b + ", 2)", x.replay(a, b, 2), OUTSIDE);
                if (!ratio) {
                    due("17: replay(" + a + ", " + b + ", 0)", x.replay(a, b, 0), OUTSIDE);
                    due("17: OUTSIDE ahead of STATE", new CreditShelf().replay(a, b, 0), OUTSIDE);
                } else {
                    due("17: no SHELF", new CreditShelf().replay(a, b, 0), STATE);
                }
            }
        }
        due("17: far away", x.replay(MIN, -5, 0), OUTSIDE);
        due("17: far away", x.replay(MIN, MIN, 0), OUTSIDE);
        due("17: far away", x.replay(MAX, 3, 0), OUTSIDE);
        due("17: far away", x.replay(2, 3, MIN), OUTSIDE);
        unchanged("17: replay", x, before);
        for (int i = 0; i < 30; i++) {
            x.put(0, 50, 0);
            x.take(50);
        }
        due("17: the LOG has 60", x.count(4), 60);
        due("17: the LOG's last one is PUT or TAKEN", x.replay(4, 5, 1), 7);
        CreditShelf y = Check.shelfOf("23;1;l10=0,f20=0");
        y.tell(20);
        due("17: TAKEN once more", y.replay(3, 4, 1), 0);
        due("17: at the cost of one", y.replay(3, 4, 0), 1);
    }

    private static void ahead() {
        due("18: no SHELF", new CreditShelf().ahead(), STATE);
        CreditShelf x = Check.shelfOf("23;1;");
        int[] by23 = {NONE, NONE, 1, 2, 2, 2, 3, 3, 3};
        for (int n = 0; n <= 8; n++) {
            due("18: ahead() of " + n, x.ahead(), by23[n]);
            x.put(1, 10 * n, 0);
        }
        CreditShelf y = Check.shelfOf("45;1;n10=0,n20=0,n30=0,n40=0,n50=0,n60=0");
        due("18: ahead() of 6", y.ahead(), 2);
        y.take(30);
        due("18: one is TAKEN", y.ahead(), 1);
        long before = y.digest();
        y.ahead();
        unchanged("18: ahead", y, before);
    }

    private static void see() {
        CreditShelf x = Check.shelfOf("23;1;");
        for (int[] row : new int[][] {{-1, 0}, {100, 0}, {0, -1}, {0, 4}, {MIN, 0}, {0, MAX}}) {
            due("19: see OUTSIDE", x.see(row[0], row[1], true), OUTSIDE);
            due("19: OUTSIDE ahead of STATE", new CreditShelf().see(row[0], row[1], true), OUTSIDE);
        }
        due("19: no SHELF", new CreditShelf().see(0, 0, true), STATE);
        for (int i = 1; i <= 6; i++) {
            due("19: see", x.see(i < 3 ? 0 : 99, i % 4, i % 2 == 0), i);
        }
        long before = x.digest();
        due("19: the seventh", x.see(0, 0, true), FULL);
        due("19: the seventh, OUTSIDE", x.see(0, 4, true), OUTSIDE);
        unchanged("19: the seventh", x, before);
    }

    private static void forget() {
        due("20: no SHELF", new CreditShelf().forget(), 0);
        CreditShelf x = Check.shelfOf("23;1;");
        due("20: nothing", x.forget(), 0);
        x.see(7, 0, true);
        x.see(7, 2, true);
        due("20: two", x.forget(), 2);
        due("20: count(5)", x.count(5), 0);
        due("20: all SORTS", x.sorts(7, 0), 31);
        due("20: see", x.see(7, 0, true), 1);
    }

    private static void sorts() {
        int[] able = {0b01101, 0b01111, 0b00100, 0b10111};
        int[] asks = {2, 0, 0, 0};
        int[] asksNot = {1, 0, 0, 0};
        for (int what = 0; what <= 3; what++) {
            CreditShelf x = Check.shelfOf("23;1;");
            x.see(7, what, true);
            x.see(8, what, false);
            due("21: could " + what, x.sorts(7, 0), able[what]);
            due("21: could not " + what, x.sorts(8, 0), 31 - able[what]);
            due("21: ASK behind could " + what, x.sorts(7, 1), asks[what]);
            due("21: ASK behind could not " + what, x.sorts(8, 1), asksNot[what]);
            due("21: another KEY", x.sorts(9, 0), 31);
        }
        CreditShelf x = new CreditShelf();
        due("21: no SHELF", x.sorts(0, 0), 31);
        due("21: no SHELF, ASK", x.sorts(99, 1), 0);
        for (int[] row : new int[][] {{-1, 0}, {100, 0}, {0, -1}, {0, 2}, {MIN, 0}, {0, MAX}}) {
            due("21: sorts OUTSIDE", x.sorts(row[0], row[1]), OUTSIDE);
        }
        CreditShelf y = Check.shelfOf("23;1;n07=0");
        y.see(7, 0, true);
        y.see(7, 2, false);
        due("21: 0 and 3 are left", y.sorts(7, 0), 0b01001);
        due("21: ASK whether it stays", y.sorts(7, 1), 3);
        y.see(7, 3, true);
        due("21: one is left", y.sorts(7, 0), 1);
        due("21: the least, of like ones", y.sorts(7, 1), 0);
        y.see(7, 0, false);
        due("21: none is left", y.sorts(7, 0), 0);
        due("21: nothing to ASK", y.sorts(7, 1), NONE);
    }

    private static void drawn() {
        CreditShelf x = Check.shelfOf("23;1;");
        due("22: SEED", x.drawn(1, 0, 2), 12345);
        due("22: SEED", x.drawn(1, 1, 2), 1103527590);
        due("22: SEED", x.drawn(1, MAX, 2), (1103515245L * MAX + 12345) % (1L << 31));
        due("22: PUT", x.drawn(1, 1, 1), 0);
        due("22: COST", x.drawn(1, 1, 0), 0);
        long seed = 5;
        for (int i = 0; i < 60; i++) {
            seed = (1103515245L * seed + 12345) % (1L << 31);
        }
        due("22: SEED behind 60", x.drawn(60, 5, 2), seed);
        for (int[] row : new int[][] {{0, 0, 0}, {61, 0, 0}, {1, -1, 0}, {1, 0, -1}, {1, 0, 3}, {MIN, 0, 0}, {1, MIN, 0}, {1, 0, MAX}}) {
            due("22: drawn OUTSIDE", x.drawn(row[0], row[1], row[2]), OUTSIDE);
            due("22: OUTSIDE ahead of STATE", new CreditShelf().drawn(row[0], row[1], row[2]), OUTSIDE);
        }
        due("22: no SHELF", new CreditShelf().drawn(1, 0, 0), STATE);
        CreditShelf y = Check.shelfOf("23;1;s38=0");
        long before = y.digest();
        due("22: TAKEN, though SEALED", y.drawn(1, 1, 1), NONE);
        unchanged("22: drawn", y, before);
        CreditShelf z = Check.shelfOf("23;1;n38=0,n39=0");
        z.flatten();
        due("22: COST of what is drawn alone", z.drawn(1, 1, 0), 1);
        due("22: TALL", z.drawn(1, 1, 1), 0);
        CreditShelf w = Check.shelfOf("45;1;");
        for (int key = 50; key < 90; key++) {
            w.put(0, key, 0);
        }
        due("22: not PUT above 40", w.drawn(1, 1, 1), w.ledger(0));
        due("22: nothing BUILT above 40", w.drawn(1, 1, 0), 0);
    }

    private static void imageAndRestore() {
        CreditShelf x = new CreditShelf();
        due("23: no SHELF", x.image(), STATE);
        due("24: none was kept", x.restore(), STATE);
        x = Check.shelfOf(CHAIN);
        due("24: none was kept", x.restore(), STATE);
        x.see(7, 1, false);
        x.flatten();
        due("23: image()", x.image(), 4);
        long before = x.digest();
        x.put(0, 50, 0);
        x.put(4, 10, 9);
        x.tell(20);
        x.tell(40);
        for (int i = 0; i < 20; i++) {
            x.flatten();
        }
        Check.holds("24: LOWEST is below 0", x.ledger(4) < 100000);
        x.see(7, 1, true);
        Check.write(x, "ab");
        due("24: restore()", x.restore(), 4);
        due("24: THE PAGE stays", x.count(6), 2);
        x.blank();
        due("24: all else is as it was", x.digest(), before);
        x.forget();
        x.take(10);
        due("24: again", x.restore(), 4);
        due("24: all is as it was", x.digest(), before);
        x.take(10);
        due("23: the latest", x.image(), 3);
        x.put(0, 10, 1);
        due("24: from the latest", x.restore(), 3);
        Check.write(x, "23;1;x");
        due("24: no other SHELF", x.shelf(), STATE);
        due("24: restore()", x.restore(), 3);
        x.blank();
        Check.write(x, "23;1;");
        x.shelf();
        due("24: another SHELF since", x.restore(), STATE);
        due("23: image() of none", x.image(), 0);
        x.put(0, 1, 1);
        due("24: restore() to none", x.restore(), 0);
        due("24: how often a SHELF was read", x.count(7), 2);
    }

    private static void count() {
        CreditShelf x = Check.shelfOf("35;7;n10=1,f20=2");
        x.tell(20);
        x.see(1, 1, true);
        Check.write(x, "abc");
        int[] told = {1, 3, 5, 7, 3, 1, 3, 1};
        for (int what = 0; what <= 7; what++) {
            due("25: count(" + what + ")", x.count(what), told[what]);
        }
        for (int what : new int[] {-1, 8, MIN, MAX}) {
            due("25: count(" + what + ")", x.count(what), OUTSIDE);
        }
        for (int i = 0; i < 57; i++) {
            due("25: in the LOG", x.count(4), 3 + i);
            if (i % 2 == 0) {
                x.put(0, 30, 0);
            } else {
                x.take(30);
            }
        }
        due("25: in the LOG", x.count(4), 60);
        x.put(0, 40, 0);
        due("25: 60 at most", x.count(4), 60);
    }

    private static void digest() {
        CreditShelf x = Check.shelfOf("23;2;n10=1,c20=2");
        Check.write(x, "n1");
        x.see(7, 2, true);
        due("26: digest()", x.digest(), mixed(10, 0, 1, 0, 2, NONE, 20, NONE, 20, 2, 2, 1, 1, NONE, NONE, 10,
                1, 1, 2, 100006, 100000, 0, 0, 0, 1, 0, 1, 4, 0, 'n', '1', 2, 2, 3, 2, 2, 1, 2, 1));
        CreditShelf y = Check.shelfOf("23;1;n50=0");
        due("26: would() of 50, there", y.digest(), mixed(50, 0, 0, 0, 1, NONE, NONE, NONE, 0, 0, 1, 100001, 100000, 0, 0,
                NONE, NONE, 0, 0, 31, 0, 1, 2, 3, 1, 1, 0, 0, 1));
        CreditShelf z = forty();
        long h = 1373;
        for (int key = 0; key < 80; key += 2) {
            h = 31 * h + key;
            for (int what = 0; what <= 6; what++) {
                h = 31 * h + z.entry(key, what);
            }
        }
        for (int what = 0; what <= 6; what++) {
            h = 31 * h + z.ledger(what);
        }
        for (long number : new long[] {NONE, z.ahead(), z.replay(2, 3, 0), z.replay(2, 3, 1), 31, 0, 40, 3, 4, 3, 40, 0, 0, 1}) {
            h = 31 * h + number;
        }
        due("26: digest() of 40", z.digest(), h);
    }

    public static void main(String[] args) {
        newObject();
        letter();
        blank();
        fault();
        shelf();
        entry();
        as();
        at();
        next();
        put();
        take();
        tell();
        flatten();
        ledger();
        would();
        dear();
        replay();
        ahead();
        see();
        forget();
        sorts();
        drawn();
        imageAndRestore();
        count();
        digest();
        Check.end("PromiseTest");
    }
}
