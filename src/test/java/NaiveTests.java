/** Random runs of calls, the same ones each time, against the plain version. */
final class NaiveTests {
    private static final int RUNS = 600;
    private static final int CALLS = 150;
    private static final int MOST_WRONG = 10;

    private long seed;
    private int compared;
    private int wrong;
    private WalkingStreets real;
    private NaiveTown naive;
    private StringBuilder log;

    public static void main(String[] args) {
        NaiveTests tests = new NaiveTests();
        int runs = args.length > 0 ? Integer.parseInt(args[0]) : RUNS;
        for (int run = 0; run < runs && tests.wrong < MOST_WRONG; run++) {
            tests.seed = run * 7919L + 17;
            tests.run();
        }
        System.out.println(tests.compared + " answers compared, " + tests.wrong + " wrong");
        if (tests.wrong > 0) {
            System.exit(1);
        }
    }

    private int upTo(int bound) {
        seed = seed * 6364136223846793005L + 1442695040888963407L;
        return (int) Math.floorMod(seed >>> 33, (long) bound);
    }

    private boolean oneIn(int bound) {
        return upTo(bound) == 0;
    }

    private void due(String call, long got, long want) {
        compared++;
        log.append(' ').append(call).append('=').append(got).append('\n');
        if (got != want) {
            wrong++;
            System.out.println(log + "due is " + want);
        }
    }

    private void run() {
        real = new WalkingStreets();
        naive = new NaiveTown();
        log = new StringBuilder();
        boolean large = oneIn(8);
        tell(text(large));
        int before = wrong;
        for (int call = 0; call < CALLS && wrong == before; call++) {
            if (oneIn(60)) {
                tell(oneIn(3) ? text(false) : broken(text(oneIn(9))));
            } else if (oneIn(3)) {
                change();
            } else {
                ask(large);
            }
        }
    }

    private void tell(String text) {
        for (int i = 0; i < text.length(); i++) {
            int c = text.charAt(i);
            due("type(" + c + ")", real.type(c), naive.type(c));
        }
        log.append(text).append('\n');
        due("town()", real.town(), naive.town());
        if (!oneIn(4)) {
            due("clear()", real.clear(), naive.clear());
        }
        for (int what = -1; what < 8; what++) {
            due("count(" + what + ")", real.count(what), naive.count(what));
        }
    }

    private String text(boolean large) {
        StringBuilder text = new StringBuilder();
        int carts = large ? 7 : upTo(6);
        int widest = 1 + upTo(large ? 5 : 4);
        for (int c = 0; c < carts; c++) {
            text.append('c').append(1 + upTo(widest)).append(' ').append(1 + upTo(9)).append(';');
        }
        for (int feuds = carts < 2 ? 0 : upTo(6); feuds > 0; feuds--) {
            int a = upTo(carts);
            text.append('q').append(a).append(' ').append((a + 1 + upTo(carts - 1)) % carts).append(';');
        }
        text.append(oneIn(3) ? "" : "d" + (1 + upTo(9)) + ";");
        text.append(oneIn(3) ? "" : "m " + (1 + upTo(60)) + " ;");
        if (!oneIn(10)) {
            int cells = 1 + upTo(large ? 40 : 24);
            int rivers = 1 + upTo(5);
            text.append('g');
            for (int k = 0; k < cells; k++) {
                text.append(oneIn(1 + rivers) ? 'r' : oneIn(4) ? 'h' : 'f');
            }
            text.append(';');
        }
        return text.toString();
    }

    private String broken(String text) {
        StringBuilder other = new StringBuilder(text);
        for (int times = 1 + upTo(2); times > 0; times--) {
            int at = upTo(other.length() + 1);
            int how = upTo(3);
            char byteThere = oneIn(3) ? (char) upTo(256) : "cqdmgfhr 0123456789;;".charAt(upTo(21));
            if (how == 0) {
                other.insert(at, byteThere);
            } else if (at < other.length() && how == 1) {
                other.setCharAt(at, byteThere);
            } else if (at < other.length()) {
                other.deleteCharAt(at);
            }
        }
        return oneIn(4) ? other.substring(0, upTo(other.length() + 1)) : other.toString();
    }

    /** This one, or once in a while one that is far from all that there is. */
    private int orFar(int near) {
        return oneIn(100) ? Checks.FAR[upTo(Checks.FAR.length)] : near;
    }

    /** Mostly one that is there, at times one that is not. */
    private int aCart() {
        return orFar(oneIn(20) ? upTo(10) - 2 : upTo(Math.max(1, real.count(0))));
    }

    private int aCell() {
        return orFar(oneIn(20) ? upTo(44) - 2 : upTo(Math.max(1, real.count(1))));
    }

    private int aFlag() {
        return orFar(oneIn(20) ? upTo(4) - 1 : upTo(2));
    }

    private void change() {
        int c = aCart();
        int is = aFlag();
        int k = aCell();
        int image = orFar(oneIn(10) ? upTo(4) - 1 : upTo(2));
        switch (upTo(14)) {
            case 0:
            case 1:
            case 2:
                due("late(" + c + ", " + is + ")", real.late(c, is), naive.late(c, is));
                break;
            case 3:
                due("nine()", real.nine(), naive.nine());
                break;
            case 4:
                due("pin(" + c + ")", real.pin(c), naive.pin(c));
                break;
            case 5:
                due("storm()", real.storm(), naive.storm());
                break;
            case 6:
                due("widens(" + c + ")", real.widens(c), naive.widens(c));
                break;
            case 7:
            case 8:
                due("floods(" + k + ", " + is + ")", real.floods(k, is), naive.floods(k, is));
                break;
            case 9:
            case 10:
                due("loses(" + c + ", " + is + ")", real.loses(c, is), naive.loses(c, is));
                break;
            case 11:
                due("undo()", real.undo(), naive.undo());
                break;
            case 12:
                due("keep(" + image + ")", real.keep(image), naive.keep(image));
                break;
            default:
                due("back(" + image + ")", real.back(image), naive.back(image));
        }
    }

    private void ask(boolean large) {
        int c = aCart();
        int b = aCart();
        int h = orFar(oneIn(10) ? upTo(70) - 4 : 1 + upTo(20));
        int i = orFar(oneIn(10) ? upTo(16) - 6 : upTo(7));
        switch (upTo(large ? 12 : 14)) {
            case 0:
                askAllCarts();
                break;
            case 1:
                askAllCells();
                break;
            case 2:
                for (int what = -1; what < 9; what++) {
                    due("now(" + what + ")", real.now(what), naive.now(what));
                }
                break;
            case 3:
                due("between(" + c + ", " + b + ")", real.between(c, b), naive.between(c, b));
                due("windward(" + c + ", " + b + ")", real.windward(c, b), naive.windward(c, b));
                break;
            case 4:
            case 5:
                for (int what = -1; what < 5; what++) {
                    due("ropes(" + what + ")", real.ropes(what), naive.ropes(what));
                }
                break;
            case 6:
                due("dark(" + h + ")", real.dark(h), naive.dark(h));
                break;
            case 7:
                due("saw(" + c + ", " + b + ")", real.saw(c, b), naive.saw(c, b));
                due("who()", real.who(), naive.who());
                break;
            case 8:
                due("forget()", real.forget(), naive.forget());
                break;
            case 9:
            case 10:
                askOdds(c);
                break;
            case 11:
                due("mark(" + i + ", " + c + ")", real.mark(i, c), naive.mark(i, c));
                due("trace()", real.trace(), naive.trace());
                askOneBest(i);
                break;
            case 12:
                askBest();
                break;
            default:
                due("soon(" + h + ", " + i + ")", real.soon(h, i), naive.soon(h, i));
                due("soon(" + h + ", -1)", real.soon(h, -1), naive.soon(h, -1));
        }
    }

    private void askAllCarts() {
        for (int c = -1; c <= real.count(0); c++) {
            for (int what = -1; what < 8; what++) {
                due("cart(" + c + ", " + what + ")", real.cart(c, what), naive.cart(c, what));
            }
            due("order(" + c + ")", real.order(c), naive.order(c));
        }
    }

    private void askAllCells() {
        for (int k = -1; k <= real.count(1); k++) {
            due("ground(" + k + ")", real.ground(k), naive.ground(k));
            due("takes(" + k + ")", real.takes(k), naive.takes(k));
        }
    }

    private void askOdds(int c) {
        int x = orFar(oneIn(10) ? upTo(14) - 2 : upTo(11));
        int real5 = Math.max(real.cart(c, 5), 0);
        int k = oneIn(2) ? aCell() : real5 + upTo(3);
        for (int what = 0; what < (oneIn(10) ? 3 : 2); what++) {
            String call = "odds(" + c + ", " + k + ", " + x + ", " + what + ")";
            due(call, real.odds(c, k, x, what), naive.odds(c, k, x, what));
        }
    }

    private void askBest() {
        for (int i = -4; i < 8; i++) {
            askOneBest(i);
        }
    }

    private void askOneBest(int i) {
        due("best(" + i + ")", real.best(i), naive.best(i));
    }

    private NaiveTests() {
    }
}
