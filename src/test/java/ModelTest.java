import java.util.Random;

/** Drawn runs of calls, each answer held against the slow model's, and the digest after every call. */
public final class ModelTest {
    private static final int RUNS = 240;
    private static final int CALLS = 512;
    private static final String[] RATIOS = {"23", "34", "35", "45"};

    private final Random draw;
    private final CreditShelf x = new CreditShelf();
    private final ShelfModel m = new ShelfModel();
    private final int run;
    /** What the run is about: a range of KEYS, and how often one is TAKEN for each that is PUT. */
    private final int keys;
    private final int takes;
    private int calls = 0;

    private ModelTest(int run) {
        this.run = run;
        this.draw = new Random(7001L * run + 13);
        this.keys = new int[] {100, 100, 45, 12, 5}[run % 5];
        this.takes = new int[] {0, 1, 2, 5}[run % 4];
    }

    private void due(String call, long got, long want) {
        calls++;
        Check.due("run " + run + ", call " + calls + ": " + call, got, want);
        Check.due("run " + run + ", call " + calls + ": digest() after " + call, x.digest(), m.digest());
    }

    private int any(int low, int high) {
        return low + draw.nextInt(high - low + 1);
    }

    /** Mostly a number of the range, at times one right beside it, at times one far away. */
    private int near(int low, int high) {
        int where = draw.nextInt(40);
        if (where == 0) {
            return low - 1;
        }
        if (where == 1) {
            return high + 1;
        }
        if (where == 2) {
            return draw.nextBoolean() ? Integer.MAX_VALUE : Integer.MIN_VALUE;
        }
        return any(low, high);
    }

    private int key() {
        return draw.nextInt(30) == 0 ? near(0, 99) : any(0, keys - 1);
    }

    private String text() {
        StringBuilder s = new StringBuilder(RATIOS[any(0, 3)]).append(';').append(any(1, 9)).append(';');
        int entries = any(0, 8);
        for (int i = 0; i < entries; i++) {
            s.append(i == 0 ? "" : ",").append("nlcfs".charAt(any(0, 4)));
            s.append(any(0, 9)).append(any(0, 9)).append('=').append(any(0, 9));
        }
        return s.toString();
    }

    private void letter(int code) {
        due("letter(" + code + ")", x.letter(code), m.letter(code));
    }

    private void write() {
        StringBuilder s = new StringBuilder(text());
        if (draw.nextInt(3) == 0) {
            s.setCharAt(any(0, s.length() - 1), "0123456789;=,nlcfsx".charAt(any(0, 18)));
        }
        if (draw.nextInt(4) == 0) {
            s.setLength(any(0, s.length()));
        }
        for (int i = 0; i < s.length(); i++) {
            letter(s.charAt(i));
        }
        due("fault()", x.fault(), m.fault());
    }

    private void shelf() {
        due("shelf()", x.shelf(), m.shelf());
    }

    private void change() {
        int key = key();
        if (draw.nextInt(6) < takes) {
            key = draw.nextInt(4) > 0 && m.count(0) > 0 ? m.at(any(0, m.count(0) - 1)) : key;
            if (draw.nextInt(3) == 0) {
                due("tell(" + key + ")", x.tell(key), m.tell(key));
            } else {
                due("take(" + key + ")", x.take(key), m.take(key));
            }
        } else {
            int kind = draw.nextInt(3) > 0 ? 0 : near(0, 4);
            int value = draw.nextInt(4) > 0 ? any(0, 9) : near(990, 999);
            due("put(" + kind + ", " + key + ", " + value + ")", x.put(kind, key, value), m.put(kind, key, value));
        }
    }

    private void ask() {
        int key = draw.nextInt(3) > 0 && m.count(0) > 0 ? m.at(any(0, m.count(0) - 1)) : key();
        int what = near(0, 7);
        switch (draw.nextInt(11)) {
            case 0 -> due("entry(" + key + ", " + what + ")", x.entry(key, what), m.entry(key, what));
            case 1 -> due("as(" + key + ", " + what + ")", x.as(key, what), m.as(key, what));
            case 2 -> due("at(" + key + ")", x.at(key), m.at(key));
            case 3 -> due("next(" + key + ")", x.next(key), m.next(key));
            case 4 -> due("ledger(" + what + ")", x.ledger(what), m.ledger(what));
            case 5 -> due("would(" + key + ")", x.would(key), m.would(key));
            case 6 -> due("dear(" + what % 3 + ")", x.dear(what % 3), m.dear(what % 3));
            case 7 -> replay(near(2, 4), near(3, 5), near(0, 1));
            case 8 -> due("ahead()", x.ahead(), m.ahead());
            case 9 -> drawn(near(1, 60), near(0, 1000000), near(0, 2));
            default -> due("count(" + what + ")", x.count(what), m.count(what));
        }
    }

    private void replay(int a, int b, int what) {
        due("replay(" + a + ", " + b + ", " + what + ")", x.replay(a, b, what), m.replay(a, b, what));
    }

    private void drawn(int times, int seed, int what) {
        due("drawn(" + times + ", " + seed + ", " + what + ")", x.drawn(times, seed, what), m.drawn(times, seed, what));
    }

    private void sight() {
        int key = draw.nextInt(3) > 0 ? 7 : near(0, 99);
        int what = near(0, 3);
        boolean could = draw.nextBoolean();
        switch (draw.nextInt(5)) {
            case 0 -> due("forget()", x.forget(), m.forget());
            case 1 -> due("sorts(" + key + ", " + what + ")", x.sorts(key, what), m.sorts(key, what));
            default -> due("see(" + key + ", " + what + ", " + could + ")", x.see(key, what, could), m.see(key, what, could));
        }
    }

    private void all() {
        int which = draw.nextInt(8);
        if (which == 0) {
            due("blank()", x.blank(), m.blank());
        } else if (which == 1) {
            letter(near(1, 126));
        } else if (which == 2) {
            // more than one in a row, so that CREDIT comes below 0 at times
            for (int i = any(0, 6); i >= 0; i--) {
                due("flatten()", x.flatten(), m.flatten());
            }
        } else if (which == 3 && draw.nextInt(6) == 0) {
            due("blank()", x.blank(), m.blank());
            write();
            shelf();
        } else if (which <= 5) {
            due("image()", x.image(), m.image());
        } else {
            due("restore()", x.restore(), m.restore());
        }
    }

    private void go() {
        for (int i = 0; i < 3; i++) {
            all();
            ask();
            sight();
            change();
        }
        while (m.count(7) == 0 && calls < CALLS) {
            due("blank()", x.blank(), m.blank());
            write();
            shelf();
        }
        while (calls < CALLS && Check.allRight()) {
            int which = draw.nextInt(20);
            if (which < 12) {
                change();
            } else if (which < 17) {
                ask();
            } else if (which < 18 || run % 3 == 0) {
                sight();
            } else {
                all();
            }
        }
    }

    public static void main(String[] args) {
        for (int run = 0; run < RUNS && Check.allRight(); run++) {
            new ModelTest(run).go();
        }
        Check.end("ModelTest");
    }
}
