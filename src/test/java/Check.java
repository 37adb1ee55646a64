/** Counts answers that are not as due, and prints them. */
final class Check {
    private static int wrong = 0;
    private static int asked = 0;

    private Check() {
    }

    static void due(String call, long got, long want) {
        asked++;
        if (got != want) {
            wrong++;
            System.out.println(call + " answered " + got + ", due is " + want);
        }
    }

    static void holds(String what, boolean so) {
        asked++;
        if (!so) {
            wrong++;
            System.out.println("not so: " + what);
        }
    }

    static boolean allRight() {
        return wrong == 0;
    }

    static void end(String test) {
        System.out.println(test + ": " + asked + " answers, " + wrong + " not as due");
        if (wrong != 0) {
            System.exit(1);
        }
    }

    /** Writes a text on THE PAGE, behind what is there. */
    static void write(CreditShelf x, String text) {
        for (int i = 0; i < text.length(); i++) {
            x.letter(text.charAt(i));
        }
    }

    /** A new object whose SHELF is this text. */
    static CreditShelf shelfOf(String text) {
        CreditShelf x = new CreditShelf();
        write(x, text);
        holds("\"" + text + "\" is a SHELF", x.shelf() >= 0);
        return x;
    }
}
