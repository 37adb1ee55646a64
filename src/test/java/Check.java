/** Counts answers that are not as due, and prints them. */
final class Check {
    private static final int[][] RATIOS = {{2, 3}, {3, 4}, {3, 5}, {4, 5}};
    private static int wrong = 0;
    private static int asked = 0;

    private Check() {
    }

    /** Something done on an object, with its answer. */
    interface Call {
        long on(CreditShelf x);
    }

    /** How an object comes to be as a test wants it; each time another object. */
    interface Making {
        CreditShelf make();
    }

    static void due(String call, long got, long want) {
        asked++;
        if (got != want) {
            wrong++;
            System.out.println(call + " answered " + got + ", due is " + want);
        }
    }

    static void holds(String what, boolean so) {
        asked++;
        if (!so) {
            wrong++;
            System.out.println("not so: " + what);
        }
    }

    static boolean allRight() {
        return wrong == 0;
    }

    static void end(String test) {
        System.out.println(test + ": " + asked + " answers, " + wrong + " not as due");
        if (wrong != 0) {
            System.exit(1);
        }
    }

    /** Writes a text on THE PAGE, behind what is there. */
    static void write(CreditShelf x, String text) {
        for (int i = 0; i < text.length(); i++) {
            x.letter(text.charAt(i));
        }
    }

    /** A new object whose SHELF is this text. */
    static CreditShelf shelfOf(String text) {
        CreditShelf x = new CreditShelf();
        write(x, text);
        holds("\"" + text + "\" is a SHELF", x.shelf() >= 0);
        return x;
    }

    /** A new object with so many ENTRIES of the KIND 0, of the even KEYS from 0 on, PUT one after the other. */
    static CreditShelf evens(String head, int number) {
        CreditShelf x = shelfOf(head);
        for (int i = 0; i < number; i++) {
            x.put(0, 2 * i, i);
        }
        due(number + " even KEYS: count(0)", x.count(0), number);
        return x;
    }

    /** What can be asked without changing anything, in some thirty calls. */
    static String told(CreditShelf x) {
        StringBuilder s = new StringBuilder().append(x.digest()).append(' ').append(x.fault());
        s.append(' ').append(x.dear(0)).append(' ').append(x.dear(1)).append(' ').append(x.ahead());
        for (int[] ratio : RATIOS) {
            s.append(' ').append(x.replay(ratio[0], ratio[1], 0)).append(' ').append(x.replay(ratio[0], ratio[1], 1));
        }
        for (int key : new int[] {0, 7, 8, 99}) {
            s.append(' ').append(x.sorts(key, 0)).append(' ').append(x.sorts(key, 1));
        }
        for (int what = 0; what <= 2; what++) {
            s.append(' ').append(x.drawn(60, 7, what));
        }
        return s.toString();
    }

    /** The same, and what an IMAGE that was kept would bring back: the object is used up by it. */
    static String story(CreditShelf x) {
        return told(x) + " restore() " + x.restore() + " " + told(x);
    }

    /** A call is refused, and leaves its object like a twin on which it was never made. */
    static void refused(String call, Making making, Call done, long want) {
        CreditShelf x = making.make();
        due(call, done.on(x), want);
        holds(call + " changes nothing", story(x).equals(story(making.make())));
    }
}
