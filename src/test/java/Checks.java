/** Compares answers with those that are due, and counts those that differ. */
final class Checks {
    private int made;
    private int wrong;

    void due(String call, long got, long want) {
        made++;
        if (got != want) {
            wrong++;
            System.out.println(call + " answered " + got + ", due is " + want);
        }
    }

    void holds(String what, boolean is) {
        due(what, is ? 1 : 0, 1);
    }

    /** Ends the program with exit code 1 if an answer was wrong, or if nothing was compared. */
    void end() {
        System.out.println(made + " answers compared, " + wrong + " wrong");
        if (wrong > 0 || made == 0) {
            System.exit(1);
        }
    }

    static void type(WalkingStreets x, String text) {
        for (int i = 0; i < text.length(); i++) {
            x.type(text.charAt(i));
        }
    }

    /** A new object that has read this text. */
    static WalkingStreets town(String text) {
        WalkingStreets x = new WalkingStreets();
        type(x, text);
        x.town();
        return x;
    }
}
