/**
 * Every call with every meeting of edges, in states that are edges themselves: each answer, and all that can be told
 * then, is held against the slow model's. What a hand-written test may have forgotten to pair is paired here.
 */
public final class EdgeTest {
    private static final int MIN = Integer.MIN_VALUE, MAX = Integer.MAX_VALUE;
    private static final int[] KEYS = {MIN, -1, 0, 1, 7, 10, 11, 50, 51, 98, 99, 100, MAX};
    private static final int[] KINDS = {MIN, -1, 0, 1, 2, 3, 4, 5, MAX};
    private static final int[] VALUES = {MIN, -1, 0, 998, 999, 1000, MAX};
    private static final int[] WHATS = {MIN, -1, 0, 1, 2, 3, 4, 5, 6, 7, 8, MAX};
    private static final int[] NUMBERS = {MIN, -1, 0, 1, 2, 38, 39, 40, 41, 98, 99, 100, MAX};
    private static final int[] DIGITS = {MIN, MIN + 1, -1, 0, 1, 2, 3, 4, 5, 6, 10, MAX};
    private static final int[] TIMES = {MIN, -1, 0, 1, 2, 59, 60, 61, MAX};
    private static final int[] SEEDS = {MIN, -1, 0, 1, 12345, MAX - 1, MAX};
    private static final int[] CODES = {MIN, -1, 0, 1, '0', '3', ';', 'n', 126, 127, 256 + ';', MAX};
    private static final int[] CHOICES = {0, 1};
    private static final int[] NOTHING = {0};

    /** A call as both tell it; a call with fewer numbers leaves the others out. */
    private enum Call {
        LETTER(CODES, NOTHING, NOTHING), BLANK(NOTHING, NOTHING, NOTHING), FAULT(NOTHING, NOTHING, NOTHING),
        SHELF(NOTHING, NOTHING, NOTHING), ENTRY(KEYS, WHATS, NOTHING), AS(KEYS, KINDS, NOTHING), AT(NUMBERS, NOTHING, NOTHING),
        NEXT(NUMBERS, NOTHING, NOTHING), PUT(KINDS, KEYS, VALUES), TAKE(KEYS, NOTHING, NOTHING), TELL(KEYS, NOTHING, NOTHING),
        FLATTEN(NOTHING, NOTHING, NOTHING), LEDGER(WHATS, NOTHING, NOTHING), WOULD(KEYS, NOTHING, NOTHING),
        DEAR(WHATS, NOTHING, NOTHING), REPLAY(DIGITS, DIGITS, WHATS), AHEAD(NOTHING, NOTHING, NOTHING),
        SEE(KEYS, WHATS, CHOICES), FORGET(NOTHING, NOTHING, NOTHING), SORTS(KEYS, WHATS, NOTHING), DRAWN(TIMES, SEEDS, WHATS),
        IMAGE(NOTHING, NOTHING, NOTHING), RESTORE(NOTHING, NOTHING, NOTHING), COUNT(WHATS, NOTHING, NOTHING);

        final int[] first;
        final int[] second;
        final int[] third;

        Call(int[] first, int[] second, int[] third) {
            this.first = first;
            this.second = second;
            this.third = third;
        }
    }

    private enum State {
        NEW, PAGE_OF_53, PAGE_OF_54, NONE_PUT, ALL_TAKEN, ONE, EACH_KIND, SIX_SEEN, THIRTY_NINE, FORTY, LONG_LOG, OWING
    }

    private final String name;
    private final CreditShelf x = new CreditShelf();
    private final ShelfModel m = new ShelfModel();
    private int calls = 0;

    private EdgeTest(State state) {
        name = state.toString();
        switch (state) {
            case NEW -> { }
            case PAGE_OF_53 -> write("23;1;n10=1,l50=2,c30=3,f98=4,s50=5,n00=6,n07=7,n11=8,");
            case PAGE_OF_54 -> write("34;1;n10=1,l50=2,c30=3,f98=4,s51=5,n00=6,n07=7,n11=8,,");
            case NONE_PUT -> shelf("23;9;");
            case ALL_TAKEN -> allTaken();
            case ONE -> shelf("35;1;f99=9");
            case EACH_KIND -> eachKind();
            case SIX_SEEN -> sixSeen();
            case THIRTY_NINE -> many("45;2;", 39);
            case FORTY -> many("23;2;", 40);
            case LONG_LOG -> longLog();
            default -> owing();
        }
    }

    private void write(String text) {
        for (int i = 0; i < text.length(); i++) {
            both(Call.LETTER, text.charAt(i), 0, 0);
        }
    }

    private void shelf(String text) {
        write(text);
        both(Call.SHELF, 0, 0, 0);
    }

    private void allTaken() {
        shelf("34;1;n50=0,n10=1");
        both(Call.IMAGE, 0, 0, 0);
        both(Call.TAKE, 10, 0, 0);
        both(Call.TAKE, 50, 0, 0);
    }

    private void eachKind() {
        shelf("23;2;n10=1,l50=2,c00=3,f98=4,s07=5,n99=6,n11=7,c51=8");
        both(Call.PUT, 2, 51, 999);
        both(Call.PUT, 2, 0, 998);
        both(Call.IMAGE, 0, 0, 0);
        write("45;3;n01=1");
    }

    private void sixSeen() {
        shelf("45;3;f00=1,s99=2");
        for (int i = 0; i < 6; i++) {
            both(Call.SEE, i < 3 ? 7 : 50, i % 4, i % 2);
        }
        both(Call.IMAGE, 0, 0, 0);
    }

    private void many(String head, int number) {
        shelf(head);
        for (int i = 0; i < number; i++) {
            both(Call.PUT, i % 5, 10 + 2 * i, i);
        }
        both(Call.IMAGE, 0, 0, 0);
    }

    /** More was done than the LOG holds, and there are 24 of the 40 there were: one less, and all are BUILT. */
    private void longLog() {
        shelf("35;1;");
        for (int i = 0; i < 40; i++) {
            both(Call.PUT, 0, 99 - 2 * i, i);
        }
        for (int i = 0; i < 16; i++) {
            both(Call.TAKE, 99 - 2 * i, 0, 0);
        }
        for (int i = 0; i < 3; i++) {
            both(Call.PUT, 0, 10, i);
            both(Call.TAKE, 10, 0, 0);
        }
    }

    private void owing() {
        shelf("34;1;n10=1,n50=2,n51=3");
        for (int i = 0; i < 9; i++) {
            both(Call.FLATTEN, 0, 0, 0);
        }
        both(Call.IMAGE, 0, 0, 0);
        both(Call.FLATTEN, 0, 0, 0);
    }

    private static long ofClass(CreditShelf x, Call call, int a, int b, int c) {
        return switch (call) {
            case LETTER -> x.letter(a);
            case BLANK -> x.blank();
            case FAULT -> x.fault();
            case SHELF -> x.shelf();
            case ENTRY -> x.entry(a, b);
            case AS -> x.as(a, b);
            case AT -> x.at(a);
            case NEXT -> x.next(a);
            case PUT -> x.put(a, b, c);
            case TAKE -> x.take(a);
            case TELL -> x.tell(a);
            case FLATTEN -> x.flatten();
            case LEDGER -> x.ledger(a);
            case WOULD -> x.would(a);
            case DEAR -> x.dear(a);
            case REPLAY -> x.replay(a, b, c);
            case AHEAD -> x.ahead();
            case SEE -> x.see(a, b, c == 1);
            case FORGET -> x.forget();
            case SORTS -> x.sorts(a, b);
            case DRAWN -> x.drawn(a, b, c);
            case IMAGE -> x.image();
            case RESTORE -> x.restore();
            case COUNT -> x.count(a);
        };
    }

    private static long ofModel(ShelfModel m, Call call, int a, int b, int c) {
        return switch (call) {
            case LETTER -> m.letter(a);
            case BLANK -> m.blank();
            case FAULT -> m.fault();
            case SHELF -> m.shelf();
            case ENTRY -> m.entry(a, b);
            case AS -> m.as(a, b);
            case AT -> m.at(a);
            case NEXT -> m.next(a);
            case PUT -> m.put(a, b, c);
            case TAKE -> m.take(a);
            case TELL -> m.tell(a);
            case FLATTEN -> m.flatten();
            case LEDGER -> m.ledger(a);
            case WOULD -> m.would(a);
            case DEAR -> m.dear(a);
            case REPLAY -> m.replay(a, b, c);
            case AHEAD -> m.ahead();
            case SEE -> m.see(a, b, c == 1);
            case FORGET -> m.forget();
            case SORTS -> m.sorts(a, b);
            case DRAWN -> m.drawn(a, b, c);
            case IMAGE -> m.image();
            case RESTORE -> m.restore();
            case COUNT -> m.count(a);
        };
    }

    /** Makes the call on both: whether it was refused. */
    private boolean both(Call call, int a, int b, int c) {
        long answer = ofClass(x, call, a, b, c);
        calls++;
        Check.due(name + ": " + call + "(" + a + ", " + b + ", " + c + ")", answer, ofModel(m, call, a, b, c));
        return answer <= -101;
    }

    private void alike(String when) {
        calls++;
        Check.due(name + ": digest() " + when, x.digest(), m.digest());
    }

    /** An object is used for another call only while it was refused all it was asked, and for some 400 calls at most. */
    private static void everyMeeting(State state, Call call) {
        EdgeTest at = new EdgeTest(state);
        for (int a : call.first) {
            for (int b : call.second) {
                for (int c : call.third) {
                    boolean refused = at.both(call, a, b, c);
                    if (!refused || at.calls > 400) {
                        at.alike("behind " + call + "(" + a + ", " + b + ", " + c + ")");
                        at.both(Call.RESTORE, 0, 0, 0);
                        at.alike("behind that and restore()");
                        at = new EdgeTest(state);
                    }
                }
            }
        }
        at.alike("behind the last refusals of " + call);
    }

    public static void main(String[] args) {
        for (State state : State.values()) {
            for (Call call : Call.values()) {
                everyMeeting(state, call);
            }
        }
        Check.end("EdgeTest");
    }
}
