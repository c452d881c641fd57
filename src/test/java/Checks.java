/** Compares answers with those that are due, and counts those that differ. */
final class Checks {
    /** Numbers that are far from all that any call takes. */
    static final int[] FAR = {Integer.MIN_VALUE, -1000000, -100, Integer.MAX_VALUE, 1000, 256};

    private int made;
    private int wrong;

    void due(String call, long got, long want) {
        made++;
        if (got != want) {
            wrong++;
            System.out.println(call + " answered " + got + ", due is " + want);
        }
    }

    void same(String what, String got, String want) {
        made++;
        if (!got.equals(want)) {
            wrong++;
            System.out.println(what + " is " + got + ", due is " + want);
        }
    }

    void holds(String what, boolean is) {
        due(what, is ? 1 : 0, 1);
    }

    /** Ends the program with exit code 1 if an answer was wrong, or if nothing was compared. */
    void end() {
        System.out.println(made + " answers compared, " + wrong + " wrong");
        if (wrong > 0 || made == 0) {
            System.exit(1);
        }
    }

    static void type(WalkingStreets x, String text) {
        for (int i = 0; i < text.length(); i++) {
            x.type(text.charAt(i));
        }
    }

    /** A new object that has read this text. */
    static WalkingStreets town(String text) {
        WalkingStreets x = new WalkingStreets();
        type(x, text);
        x.town();
        return x;
    }

    /** The order's carts as digits, the first one ahead. */
    static String row(WalkingStreets x) {
        StringBuilder text = new StringBuilder();
        for (int i = 0; i < x.now(0); i++) {
            text.append(x.order(i));
        }
        return text.toString();
    }

    /** The best order's carts as digits. */
    static String bestRow(WalkingStreets x) {
        StringBuilder text = new StringBuilder();
        for (int i = 0; i < x.now(0); i++) {
            text.append(x.best(i));
        }
        return text.toString();
    }

    /** The cells of the carts, NONE as a minus. */
    static String cells(WalkingStreets x) {
        StringBuilder text = new StringBuilder();
        for (int c = 0; c < x.count(0); c++) {
            int cell = x.cart(c, 5);
            text.append(cell == WalkingStreets.NONE ? "-" : String.valueOf(cell)).append(' ');
        }
        return text.toString().trim();
    }
}
