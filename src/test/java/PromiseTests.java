/** One method for each promise of the document; what is due is worked out by hand. */
final class PromiseTests {
    private static final int BAD = WalkingStreets.BAD;
    private static final int STATE = WalkingStreets.STATE;
    private static final int FULL = WalkingStreets.FULL;
    private static final int NONE = WalkingStreets.NONE;
    private static final int NO = WalkingStreets.NO;
    private static final int[] FAR = Checks.FAR;

    /** Cells 0..9: f f r f f h r f f f; cart 0 takes 0..1, cart 1 takes 3, cart 2 takes 4..5. */
    private static final String THREE = "c2 3;c1 9;c2 2;q0 1;q2 1;d2;m20;gffrffhrfff;";

    private final Checks checks = new Checks();

    public static void main(String[] args) {
        PromiseTests tests = new PromiseTests();
        tests.newObject();
        tests.type();
        tests.clear();
        tests.town();
        tests.townFaults();
        tests.townFaultsOfTokens();
        tests.townReadAnew();
        tests.cart();
        tests.ground();
        tests.takes();
        tests.late();
        tests.nine();
        tests.pin();
        tests.storm();
        tests.widens();
        tests.floods();
        tests.loses();
        tests.undo();
        tests.undoOfEach();
        tests.now();
        tests.nowOfSomeOut();
        tests.setUpOfWidths();
        tests.fullTown();
        tests.order();
        tests.between();
        tests.windward();
        tests.best();
        tests.bestOfSomeOut();
        tests.ropes();
        tests.dark();
        tests.soon();
        tests.saw();
        tests.forget();
        tests.who();
        tests.odds();
        tests.mark();
        tests.keep();
        tests.back();
        tests.count();
        tests.trace();
        tests.checks.end();
    }

    private void due(String call, long got, long want) {
        checks.due(call, got, want);
    }

    private void same(String what, String got, String want) {
        checks.same(what, got, want);
    }

    // Promise 1
    private void newObject() {
        WalkingStreets x = new WalkingStreets();
        int[] counts = {0, 0, 4, 9, 0, 0, 0};
        for (int what = 0; what < counts.length; what++) {
            due("count(" + what + ") at first", x.count(what), counts[what]);
        }
        int[] nows = {0, 0, 0, 0, 0, NONE, 0, 0};
        for (int what = 0; what < nows.length; what++) {
            due("now(" + what + ") at first", x.now(what), nows[what]);
        }
        due("trace at first", x.trace(), 0);
        due("cart(0, 0) at first", x.cart(0, 0), BAD);
        due("ground(0) at first", x.ground(0), BAD);
        due("undo at first", x.undo(), STATE);
        due("back at first", x.back(0), STATE);
        due("who at first", x.who(), 128);
        due("ropes at first", x.ropes(0), 0);
        due("ropes 1 at first", x.ropes(1), NONE);
        due("best 0 at first", x.best(0), NONE);
        due("best -1 at first", x.best(-1), 0);
        due("best -2 at first", x.best(-2), 0);
        due("best -3 at first", x.best(-3), NONE);
    }

    // Promise 2
    private void type() {
        WalkingStreets x = new WalkingStreets();
        due("type(-1)", x.type(-1), BAD);
        due("type(256)", x.type(256), BAD);
        due("type(0)", x.type(0), 1);
        due("type(255)", x.type(255), 2);
        for (int i = 3; i <= 180; i++) {
            due("type, the " + i + "th", x.type(' '), i);
        }
        due("type, the 181st", x.type(' '), FULL);
        due("type(-1) when full", x.type(-1), BAD);
        due("type(256) when full", x.type(256), BAD);
        due("bytes when full", x.count(6), 180);
        due("clear when full", x.clear(), 180);
        due("type again", x.type('c'), 1);
    }

    // Promise 3
    private void clear() {
        WalkingStreets x = Checks.town(THREE);
        due("clear of nothing", x.clear(), 0);
        Checks.type(x, "c1 1;");
        due("clear", x.clear(), 5);
        due("clear again", x.clear(), 0);
        due("bytes after clear", x.count(6), 0);
        due("clear leaves the town", x.count(0), 3);
        Checks.type(x, "gf;");
        due("only what came after clear is read", x.town(), 1);
        due("carts", x.count(0), 0);
    }

    // Promise 4
    private void town() {
        reads("", 0);
        reads("   ", 0);
        reads(THREE, 8);
        reads("  c  6   9  ;  ", 1);
        reads("c6 9;", 1);
        reads("c 1 1 ; g f h r ;", 2);
        reads("c1 1;c1 1;c1 1;c1 1;c1 1;c1 1;c1 1;", 7);
        reads("c1 1;c1 1;q0 1;q0 1;q1 0;", 5);
        reads("d1;m1;", 2);
        reads("m60;d9;", 2);
        reads("gf;d4;c1 1;", 3);
        reads("g" + "f".repeat(40) + ";", 1);
        WalkingStreets x = Checks.town("g" + "frh".repeat(13) + "r;d9;m60;c1 1;c6 9;c2 5;q2 0;q0 2;");
        int[] counts = {3, 40, 9, 60, 0, 0, 0};
        for (int what = 0; what < counts.length; what++) {
            due("count(" + what + ") as told", x.count(what), counts[what]);
        }
        due("a feud told twice", x.cart(0, 4), 4);
        due("the other one of it", x.cart(2, 4), 1);
        due("none of it", x.cart(1, 4), 0);
    }

    private void reads(String text, int items) {
        WalkingStreets x = new WalkingStreets();
        Checks.type(x, text);
        due("town of '" + text + "'", x.town(), items);
        due("bytes after town of '" + text + "'", x.count(6), 0);
    }

    private void fault(String text, int place) {
        WalkingStreets x = Checks.town(THREE);
        x.storm();
        x.saw(0, 1);
        x.keep(1);
        Checks.type(x, text);
        due("town of '" + text + "'", x.town(), -10 - place);
        due("the text stays at a fault", x.count(6), text.length());
        due("carts stay at a fault", x.count(0), 3);
        due("cells stay at a fault", x.count(1), 10);
        due("APART stays at a fault", x.count(2), 2);
        due("MILES stay at a fault", x.count(3), 20);
        due("SEEN stays at a fault", x.count(4), 1);
        due("what may be undone stays at a fault", x.count(5), 1);
        due("THE ORDER stays at a fault", x.order(0), 2);
        due("an axle stays at a fault", x.cart(0, 0), 2);
        due("a feud stays at a fault", x.cart(1, 4), 5);
        due("images stay at a fault", x.back(1), 3);
    }

    private void townFaults() {
        fault("x;", 0);
        fault("f;", 0);
        fault(";", 0);
        fault("1;", 0);
        fault("c1 1;;", 5);
        fault("  a", 2);
        String seven = "c1 1;".repeat(7);
        fault(seven + "c1 1;", 35);
        fault(seven + " c", 36);
        fault("d1;d1;", 3);
        fault("m1;m1;", 3);
        fault("gf;gf;", 3);
        fault("d1;m1;gf;g", 9);
        fault("c0 1;", 1);
        fault("c7 1;", 1);
        fault("c1 0;", 3);
        fault("c1 10;", 3);
        fault("c1;", 2);
        fault("c1 1 1;", 5);
        fault("c1 1c1 1;", 4);
        fault("cc1 1;", 1);
        fault("q0 1;", 1);
        fault("c1 1;q1 0;", 6);
        fault("c1 1;q0 1;", 8);
        fault("c1 1;q0 0;", 8);
        fault("c1 1;c1 1;q0 1 0;", 15);
        fault("c1 1;q0 1;c1 1;", 8);
        fault("d0;", 1);
        fault("d10;", 1);
        fault("d1 1;", 3);
        fault("m0;", 1);
        fault("m61;", 1);
        fault("g;", 1);
        fault("gx;", 1);
        fault("gfxf;", 2);
        fault("gf1;", 2);
        fault("g" + "f".repeat(41) + ";", 41);
        fault("g" + "f".repeat(40) + "x;", 41);
    }

    private void townFaultsOfTokens() {
        fault("c100 1;", 1);
        fault("c01 1;", 1);
        fault("c1 00;", 3);
        fault("c1 09;", 3);
        fault("c1 1;c1 1;q00 1;", 11);
        fault("m060;", 1);
        fault("m" + "9".repeat(100) + ";", 1);
        fault("m4294967297;", 1);
        fault("C1 1;", 0);
        fault("c1,1;", 2);
        fault("c1 1;\t", 5);
        fault("c1 1;\n", 5);
        fault("c-1 1;", 1);
        fault("{", 0);
        fault("`", 0);
        fault("c1 1" + (char) 255, 4);
        fault("" + (char) 0, 0);
        fault("c", 1);
        fault("c1", 2);
        fault("c1 ", 3);
        fault("c1 1", 4);
        fault("c1 1   ", 7);
        fault("c1 1;q", 6);
        fault("c1 1;q0", 7);
        fault("d", 1);
        fault("m1", 2);
        fault("g", 1);
        fault("gff", 3);
        fault("gff ", 4);
        WalkingStreets x = new WalkingStreets();
        Checks.type(x, "c1 15;");
        x.clear();
        Checks.type(x, "c1 1");
        due("what was typed ahead of clear is not read", x.town(), -14);
        Checks.type(x, " ".repeat(175) + "1");
        due("180 bytes, a number last", x.town(), -10 - 179);
    }

    private void townReadAnew() {
        WalkingStreets x = Checks.town(THREE);
        x.storm();
        x.widens(0);
        x.floods(0, 1);
        x.late(1, 1);
        x.loses(2, 1);
        x.saw(0, 1);
        x.keep(0);
        x.keep(1);
        x.mark(0, 0);
        Checks.type(x, "c3 1;c1 1;c2 2;gfffffff;");
        due("town anew", x.town(), 4);
        same("the order anew", Checks.row(x), "012");
        same("cells anew", Checks.cells(x), "0 3 4");
        due("an axle anew", x.cart(0, 0), 3);
        due("nobody is late anew", x.now(7), 0);
        due("no feud anew", x.cart(0, 4), 0);
        due("ground anew", x.ground(2), 0);
        due("cells anew", x.count(1), 7);
        due("APART anew", x.count(2), 4);
        due("MILES anew", x.count(3), 9);
        due("nothing seen anew", x.count(4), 0);
        due("nothing to undo anew", x.undo(), STATE);
        due("image 0 is gone", x.back(0), STATE);
        due("image 1 is gone", x.back(1), STATE);
        due("the trace goes on", x.trace(), 1);
        due("a blank text", x.town(), 0);
        due("no carts then", x.count(0), 0);
        due("no cells then", x.count(1), 0);
    }

    // Promise 5
    private void cart() {
        WalkingStreets x = Checks.town(THREE);
        int[][] want = {{2, 3, 0, 0, 2, 0, 0}, {1, 9, 0, 0, 5, 3, 1}, {2, 2, 0, 0, 2, 4, 2}};
        for (int c = 0; c < want.length; c++) {
            for (int what = 0; what < want[c].length; what++) {
                due("cart(" + c + ", " + what + ")", x.cart(c, what), want[c][what]);
            }
        }
        for (int far : FAR) {
            due("cart(" + far + ", 0)", x.cart(far, 0), BAD);
            due("cart(0, " + far + ")", x.cart(0, far), BAD);
        }
        due("cart(3, 0)", x.cart(3, 0), BAD);
        due("cart(-1, 0)", x.cart(-1, 0), BAD);
        due("cart(0, 7)", x.cart(0, 7), BAD);
        due("cart(0, -1)", x.cart(0, -1), BAD);
        x.late(0, 1);
        due("late", x.cart(0, 2), 1);
        due("a late one takes no cell", x.cart(0, 5), NONE);
        due("a late one has a place", x.cart(0, 6), 0);
        x.loses(1, 1);
        due("lost", x.cart(1, 3), 1);
        due("a lost one takes no cell", x.cart(1, 5), NONE);
        due("a lost one has no place", x.cart(1, 6), NONE);
        due("a lost one has its feuds", x.cart(1, 4), 5);
        due("a lost one leaves no gap", x.cart(2, 5), 3);
    }

    // Promise 6
    private void ground() {
        WalkingStreets x = Checks.town(THREE);
        int[] want = {0, 0, 2, 0, 0, 1, 2, 0, 0, 0};
        for (int k = 0; k < want.length; k++) {
            due("ground(" + k + ")", x.ground(k), want[k]);
        }
        due("ground(10)", x.ground(10), BAD);
        due("ground(-1)", x.ground(-1), BAD);
        for (int far : FAR) {
            due("ground(" + far + ")", x.ground(far), BAD);
        }
        x.floods(5, 1);
        due("a flooded hill", x.ground(5), 2);
        x.floods(2, 0);
        due("a dry river", x.ground(2), 0);
    }

    // Promise 7
    private void takes() {
        WalkingStreets x = Checks.town(THREE);
        int[] want = {0, 0, NONE, 1, 2, 2, NONE, NONE, NONE, NONE};
        for (int k = 0; k < want.length; k++) {
            due("takes(" + k + ")", x.takes(k), want[k]);
        }
        due("takes(10)", x.takes(10), BAD);
        due("takes(-1)", x.takes(-1), BAD);
        for (int far : FAR) {
            due("takes(" + far + ")", x.takes(far), BAD);
        }
        x.late(0, 1);
        due("nobody takes the cells of a gap", x.takes(0), NONE);
        due("those behind a gap stand as ever", x.takes(3), 1);
        due("takes of no ground", Checks.town("c1 1;").takes(0), BAD);
    }

    // Promise 8
    private void late() {
        WalkingStreets x = Checks.town(THREE);
        due("late(1, 1)", x.late(1, 1), NONE);
        due("late(1, 1) again", x.late(1, 1), STATE);
        due("who is late", x.now(7), 2);
        due("late(2, 1)", x.late(2, 1), NONE);
        same("gaps are kept", Checks.cells(x), "0 - -");
        due("late(1, 0)", x.late(1, 0), 3);
        due("late(1, 0) again", x.late(1, 0), STATE);
        due("who is late then", x.now(7), 4);
        due("those refused are not undone", x.count(5), 3);
        x.loses(0, 1);
        due("a lost one is not late", x.late(0, 1), STATE);
        due("nor there", x.late(0, 0), STATE);
        due("late(0, 2)", x.late(0, 2), BAD);
        due("late(0, -1)", x.late(0, -1), BAD);
        due("late(3, 1)", x.late(3, 1), BAD);
        due("late(-1, 1)", x.late(-1, 1), BAD);
        for (int far : FAR) {
            due("late(" + far + ", 1)", x.late(far, 1), BAD);
            due("late(1, " + far + ")", x.late(1, far), BAD);
        }
        WalkingStreets y = Checks.town("c2 1;c1 1;gf;");
        due("one that is out may be late", y.late(1, 1), NONE);
        due("and there again, but out", y.late(1, 0), NONE);
    }

    // Promise 9
    private void nine() {
        WalkingStreets x = Checks.town("c1 1;c2 1;c1 1;c1 1;gffffffff;");
        due("nobody is late at nine", x.nine(), 0);
        same("the order stays", Checks.row(x), "0123");
        due("it may be undone all the same", x.count(5), 1);
        x.late(2, 1);
        x.late(0, 1);
        due("nine", x.nine(), 2);
        same("the late ones are behind, as they were", Checks.row(x), "1302");
        due("nobody is late then", x.now(7), 0);
        same("they take cells then", Checks.cells(x), "3 0 4 2");
        for (int c = 0; c < 4; c++) {
            x.late(c, 1);
        }
        due("all late", x.nine(), 4);
        same("all behind none", Checks.row(x), "1302");
    }

    // Promise 10
    private void pin() {
        WalkingStreets x = Checks.town(THREE);
        due("pin(0)", x.pin(0), 7);
        same("the order after a pin", Checks.row(x), "120");
        same("cells after a pin", Checks.cells(x), "7 0 3");
        due("pin of the last one", x.pin(0), STATE);
        due("pin(3)", x.pin(3), BAD);
        due("pin(-1)", x.pin(-1), BAD);
        for (int far : FAR) {
            due("pin(" + far + ")", x.pin(far), BAD);
        }
        due("those refused are not undone", x.count(5), 1);
        x.loses(2, 1);
        due("pin of a lost one", x.pin(2), STATE);
        x.late(1, 1);
        due("pin of a late one", x.pin(1), NONE);
        same("a late one goes behind", Checks.row(x), "01");
        due("and is late still", x.now(7), 2);
        WalkingStreets y = Checks.town("c2 1;c2 1;gff;");
        due("pin of one that is out then", y.pin(0), NONE);
        due("the other one stands", y.cart(1, 5), 0);
        due("pin of the only one", Checks.town("c1 1;gf;").pin(0), STATE);
    }

    // Promise 11
    private void storm() {
        WalkingStreets x = Checks.town(THREE);
        x.late(0, 1);
        due("storm", x.storm(), 2);
        same("turned about", Checks.row(x), "210");
        due("who is late stays late", x.now(7), 1);
        due("storm again", x.storm(), 0);
        WalkingStreets y = Checks.town("c1 1;c1 1;c1 1;c1 1;gffff;");
        due("storm of four", y.storm(), 3);
        same("four turned about", Checks.row(y), "3210");
        WalkingStreets z = Checks.town("c1 1;");
        z.loses(0, 1);
        due("storm of none", z.storm(), NONE);
        due("storm of one", Checks.town("c1 1;").storm(), 0);
        due("it may be undone", z.count(5), 2);
    }

    // Promise 12
    private void widens() {
        WalkingStreets x = Checks.town("c4 1;c1 1;gffffff;");
        due("widens(0)", x.widens(0), 5);
        same("the one behind has moved", Checks.cells(x), "0 5");
        due("widens(0) to 6", x.widens(0), 6);
        same("the one behind is out", Checks.cells(x), "0 -");
        due("widens(0) at 6", x.widens(0), STATE);
        due("not undone", x.count(5), 2);
        due("its axle", x.cart(0, 0), 6);
        x.loses(0, 1);
        due("a lost one at 6", x.widens(0), STATE);
        x.loses(1, 1);
        due("a lost one widens", x.widens(1), 2);
        due("widens(2)", x.widens(2), BAD);
        due("widens(-1)", x.widens(-1), BAD);
        for (int far : FAR) {
            due("widens(" + far + ")", x.widens(far), BAD);
        }
    }

    // Promise 13
    private void floods() {
        WalkingStreets x = Checks.town(THREE);
        due("flood of a flat cell", x.floods(0, 1), 2);
        same("all behind it", Checks.cells(x), "3 5 7");
        due("flood of a flooded cell", x.floods(0, 1), STATE);
        due("flood of a told river", x.floods(2, 1), STATE);
        due("dry of a flat cell", x.floods(1, 0), STATE);
        due("dry of a hill", x.floods(5, 0), STATE);
        due("dry of a flooded flat cell", x.floods(0, 0), 0);
        due("flood of a hill", x.floods(5, 1), 2);
        due("dry of a flooded hill", x.floods(5, 0), 1);
        due("dry of a told river", x.floods(2, 0), 0);
        due("a flat one then", x.floods(2, 0), STATE);
        due("flood of it again", x.floods(2, 1), 2);
        due("those refused are not undone", x.count(5), 6);
        due("floods(10, 1)", x.floods(10, 1), BAD);
        due("floods(-1, 1)", x.floods(-1, 1), BAD);
        due("floods(0, 2)", x.floods(0, 2), BAD);
        due("floods(2, -1)", x.floods(2, -1), BAD);
        for (int far : FAR) {
            due("floods(" + far + ", 1)", x.floods(far, 1), BAD);
            due("floods(0, " + far + ")", x.floods(0, far), BAD);
        }
        WalkingStreets y = Checks.town("c1 1;g" + "f".repeat(39) + "h;");
        due("flood of the last of 40", y.floods(39, 1), 2);
        due("flood of one beyond 31", y.floods(33, 1), 2);
        due("none other", y.ground(1), 0);
        due("dry of the last of 40", y.floods(39, 0), 1);
    }

    // Promise 14
    private void loses() {
        WalkingStreets x = Checks.town(THREE);
        due("loses(0, 0) of one that is there", x.loses(0, 0), STATE);
        x.late(0, 1);
        due("loses(0, 1)", x.loses(0, 1), 2);
        due("loses(0, 1) again", x.loses(0, 1), STATE);
        same("out of the order", Checks.row(x), "12");
        same("no gap is left", Checks.cells(x), "- 0 3");
        due("late no more", x.now(7), 0);
        due("found", x.loses(0, 0), 3);
        same("behind all others", Checks.row(x), "120");
        due("and there", x.cart(0, 2), 0);
        due("it takes cells", x.cart(0, 5), 7);
        due("found again", x.loses(0, 0), STATE);
        due("those refused are not undone", x.count(5), 3);
        due("loses(3, 1)", x.loses(3, 1), BAD);
        due("loses(-1, 1)", x.loses(-1, 1), BAD);
        due("loses(0, 2)", x.loses(0, 2), BAD);
        due("loses(0, -1)", x.loses(0, -1), BAD);
        for (int far : FAR) {
            due("loses(" + far + ", 1)", x.loses(far, 1), BAD);
            due("loses(0, " + far + ")", x.loses(0, far), BAD);
        }
    }

    // Promise 15
    private void undo() {
        WalkingStreets x = Checks.town(THREE);
        due("undo of nothing", x.undo(), STATE);
        for (int i = 0; i < 12; i++) {
            x.nine();
        }
        due("ten are known", x.count(5), 10);
        WalkingStreets y = Checks.town("c1 1;c1 1;c1 1;gfff;");
        y.pin(0);
        y.storm();
        for (int i = 0; i < 9; i++) {
            y.storm();
        }
        for (int left = 9; left >= 0; left--) {
            due("undo", y.undo(), left);
        }
        same("the oldest one is lost", Checks.row(y), "120");
        due("no more", y.undo(), STATE);
        y.storm();
        due("undo of the one after", y.undo(), 0);
        undoOfTwelve();
        due("what is asked, seen, marked is not undone", y.saw(0, 1) + y.mark(0, 0) + y.keep(0), 5);
        due("so nothing is to undo", y.undo(), STATE);
    }

    private void undoOfTwelve() {
        WalkingStreets x = Checks.town("c1 1;c1 1;c1 1;c1 1;c1 1;");
        String[] rows = new String[13];
        for (int i = 0; i < 12; i++) {
            rows[i] = Checks.row(x);
            x.pin(i * 3 % 5 == x.order(4) ? x.order(1) : i * 3 % 5);
        }
        for (int i = 11; i >= 2; i--) {
            due("undo of the " + i + "th", x.undo(), i - 2);
            same("as ahead of the " + i + "th", Checks.row(x), rows[i]);
        }
        due("the first two are lost", x.undo(), STATE);
    }

    private void undoOfEach() {
        WalkingStreets x = Checks.town(THREE);
        x.late(1, 1);
        x.nine();
        x.pin(0);
        x.storm();
        x.widens(2);
        x.floods(0, 1);
        x.floods(2, 0);
        x.loses(0, 1);
        x.loses(0, 0);
        due("found last", x.cart(0, 6), 2);
        due("undo FOUND", x.undo(), 8);
        due("lost again", x.cart(0, 3), 1);
        due("undo LOST", x.undo(), 7);
        same("it is where it was", Checks.row(x), "012");
        due("undo dry", x.undo(), 6);
        due("a river again", x.ground(2), 2);
        due("undo FLOOD", x.undo(), 5);
        due("dry again", x.ground(0), 0);
        due("undo WIDER", x.undo(), 4);
        due("as wide as told", x.cart(2, 0), 2);
        due("undo STORM", x.undo(), 3);
        same("not turned about", Checks.row(x), "210");
        due("undo PIN", x.undo(), 2);
        same("as after nine", Checks.row(x), "021");
        due("undo NINE", x.undo(), 1);
        same("as ahead of nine", Checks.row(x), "012");
        due("late as ahead of nine", x.now(7), 2);
        due("undo LATE", x.undo(), 0);
        due("there again", x.now(7), 0);
        same("all cells as at first", Checks.cells(x), "0 3 4");
    }

    // Promise 16
    private void now() {
        WalkingStreets x = Checks.town(THREE);
        int[] want = {3, 0, 2, 2, 4, 5, 5, 0};
        for (int what = 0; what < want.length; what++) {
            due("now(" + what + ")", x.now(what), want[what]);
        }
        due("now(8)", x.now(8), BAD);
        due("now(-1)", x.now(-1), BAD);
        for (int far : FAR) {
            due("now(" + far + ")", x.now(far), BAD);
        }
        x.late(1, 1);
        due("a gap can break", x.now(2), 2);
        due("a gap is near nobody", x.now(3), 0);
        x.late(2, 1);
        due("a gap is on no hill", x.now(4), 0);
        due("a gap takes no last cell", x.now(5), 1);
        due("a gap is not out", x.now(1), 0);
        due("LEAST with late ones", x.now(6), 5);
        due("two are late", x.now(7), 6);
        x.loses(0, 1);
        due("LEAST without a lost one", x.now(6), 3);
        due("the last cell if all are late", x.now(5), NONE);
        WalkingStreets y = Checks.town("c1 1;c1 1;grfrfhh;");
        due("the first one has none ahead to break from", y.now(2), 2);
        due("BREAKS behind a river", y.cart(1, 5), 3);
        y.floods(1, 1);
        y.floods(2, 0);
        due("no river is between", y.now(2), 0);
        y.floods(4, 1);
        y.floods(3, 1);
        due("a hill that is flooded is none", y.now(4), 2);
        WalkingStreets z = Checks.town("c2 1;c1 1;gfhhfh;");
        due("each on a hill", z.now(4), 3);
        z.pin(0);
        due("not on the hill right behind", z.now(4), 1);
    }

    private void nowOfSomeOut() {
        WalkingStreets x = Checks.town("c2 1;c3 1;c1 1;c1 1;q0 2;q2 3;q0 1;d9;gffrff;");
        same("the third would fit but is behind one that is out", Checks.cells(x), "0 - - -");
        due("OUT", x.now(1), 3);
        due("those out break nothing", x.now(2), 0);
        due("those out are near nobody", x.now(3), 0);
        due("the last cell", x.now(5), 1);
        due("LEAST with those out", x.now(6), 7);
        x.late(1, 1);
        due("a late one is out too", x.now(1), 3);
        x.late(0, 1);
        due("no cell is taken", x.now(5), NONE);
        x.nine();
        same("who is behind stands now", Checks.row(x), "2301");
        same("cells then", Checks.cells(x), "3 - 0 1");
        due("BREAKS then", x.now(2), 1);
        due("NEAR then", x.now(3), 2);
        due("OUT then", x.now(1), 1);
        WalkingStreets y = Checks.town("c1 1;c1 1;q0 1;d2;gfrrff;");
        due("as many between as APART is not near", y.now(3), 0);
        y.floods(2, 0);
        due("one fewer is near", y.now(3), 1);
    }

    /** The first cell of one cart alone, or NONE, for each width. */
    private void setUpOfWidths() {
        for (int width = 1; width <= 6; width++) {
            String cart = "c" + width + " 1;";
            String room = "f".repeat(width);
            String less = "f".repeat(width - 1);
            due("no room for " + width, Checks.town(cart + "g" + less + "r" + less + ";").cart(0, 5), NONE);
            due("room for " + width, Checks.town(cart + "g" + less + "r" + room + ";").cart(0, 5), width);
            due("just room for " + width, Checks.town(cart + "g" + room + ";").cart(0, 5), 0);
            due("too few cells for " + width, Checks.town(cart + "gr" + less + ";").cart(0, 5), NONE);
        }
    }

    /** As many carts and cells as there may be. */
    private void fullTown() {
        String carts = "c1 1;c2 2;c3 3;c4 4;c5 5;c6 6;c1 7;";
        WalkingStreets x = Checks.town(carts + "q0 6;q5 6;d9;m60;g" + "f".repeat(39) + "h;");
        same("cells", Checks.cells(x), "0 1 3 6 10 15 21");
        due("takes(39)", x.takes(39), NONE);
        int[] want = {7, 0, 0, 1, 0, 21, 22, 0};
        for (int what = 0; what < want.length; what++) {
            due("now(" + what + ") of seven", x.now(what), want[what]);
        }
        same("BEST of seven", Checks.bestRow(x), "0125346");
        due("nobody near", x.best(-2), 0);
        soonIs(x, 20, 5, "2345601");
        due("dark of seven", x.dark(59), 0);
        due("ropes of seven", x.ropes(0), 0);
        due("who of seven", x.who(), 255);
        x.widens(6);
        for (int c = 0; c < 7; c++) {
            x.late(c, 1);
        }
        due("nine of seven", x.nine(), 7);
        due("keep of seven", x.keep(0), 7);
        due("storm of seven", x.storm(), 6);
        due("the last cell of 40", x.floods(39, 1), 2);
        due("back to seven", x.back(0), 7);
        due("lost of seven", x.loses(6, 1), 6);
        due("found of seven", x.loses(6, 0), 7);
    }

    // Promise 17
    private void order() {
        WalkingStreets x = Checks.town(THREE);
        x.storm();
        same("the order", Checks.row(x), "210");
        due("order(3)", x.order(3), BAD);
        due("order(-1)", x.order(-1), BAD);
        for (int far : FAR) {
            due("order(" + far + ")", x.order(far), BAD);
        }
        x.loses(1, 1);
        due("order(1) without one", x.order(1), 0);
        due("order(2) without one", x.order(2), BAD);
    }

    // Promise 18
    private void between() {
        WalkingStreets x = Checks.town(THREE);
        due("between(0, 1)", x.between(0, 1), 1);
        due("between(1, 0)", x.between(1, 0), 1);
        due("between(1, 2)", x.between(1, 2), 0);
        due("between(0, 2)", x.between(0, 2), 2);
        due("between(2, 0)", x.between(2, 0), 2);
        due("between(2, 1)", x.between(2, 1), 0);
        due("between(0, 0)", x.between(0, 0), BAD);
        due("between(0, 3)", x.between(0, 3), BAD);
        due("between(3, 0)", x.between(3, 0), BAD);
        due("between(-1, 0)", x.between(-1, 0), BAD);
        for (int far : FAR) {
            due("between(" + far + ", 0)", x.between(far, 0), BAD);
            due("between(0, " + far + ")", x.between(0, far), BAD);
        }
        x.late(1, 1);
        due("between a late one", x.between(1, 0), NONE);
        due("and a late one", x.between(0, 1), NONE);
        due("alike late ones", x.between(1, 1), BAD);
        due("over a gap", x.between(0, 2), 2);
        x.loses(0, 1);
        due("between a lost one", x.between(0, 2), NONE);
    }

    // Promise 19
    private void windward() {
        WalkingStreets x = Checks.town(THREE);
        due("windward(0, 1)", x.windward(0, 1), 1);
        due("windward(1, 0)", x.windward(1, 0), 0);
        x.storm();
        due("windward(0, 1) then", x.windward(0, 1), 0);
        due("windward(2, 0) then", x.windward(2, 0), 1);
        due("windward(0, 0)", x.windward(0, 0), BAD);
        due("windward(0, 3)", x.windward(0, 3), BAD);
        due("windward(3, 0)", x.windward(3, 0), BAD);
        due("windward(0, -1)", x.windward(0, -1), BAD);
        for (int far : FAR) {
            due("windward(" + far + ", 0)", x.windward(far, 0), BAD);
            due("windward(0, " + far + ")", x.windward(0, far), BAD);
        }
        x.late(2, 1);
        due("windward of a late one", x.windward(2, 0), NONE);
        due("windward to a late one", x.windward(0, 2), NONE);
        x.loses(1, 1);
        due("windward of a lost one", x.windward(1, 0), NONE);
    }

    // Promise 20
    private void best() {
        WalkingStreets x = Checks.town("c1 1;c1 1;c1 1;q0 1;d1;gffff;");
        same("the feud is parted", Checks.bestRow(x), "021");
        due("all stand", x.best(-1), 3);
        due("nobody is near", x.best(-2), 0);
        due("the last cell", x.best(-3), 2);
        due("no fourth", x.best(3), NONE);
        due("no seventh", x.best(6), NONE);
        due("best(7)", x.best(7), BAD);
        due("best(-4)", x.best(-4), BAD);
        for (int far : FAR) {
            due("best(" + far + ")", x.best(far), BAD);
        }
        same("nothing is changed", Checks.row(x), "012");
        x.late(2, 1);
        x.storm();
        same("late ones count as there, whatever the order", Checks.bestRow(x), "021");
        x.loses(2, 1);
        same("a lost one can't part them", Checks.bestRow(x), "01");
        due("near then", x.best(-2), 1);
        due("two stand", x.best(-1), 2);
        due("no third", x.best(2), NONE);
        x.undo();
        x.floods(2, 1);
        same("on the ground as it is now", Checks.bestRow(x), "021");
        due("the last cell now", x.best(-3), 3);
        WalkingStreets low = Checks.town("c2 1;c1 1;gfrfff;");
        same("the last cell is one lower", Checks.bestRow(low), "10");
        due("all stand either way", low.best(-1), 2);
        due("it is", low.best(-3), 3);
        WalkingStreets y = Checks.town("c2 1;c1 1;gfrff;");
        same("one more stands so", Checks.bestRow(y), "10");
        due("that is", y.best(-3), 3);
        y.widens(1);
        same("as wide as now", Checks.bestRow(y), "01");
        due("one stands now", y.best(-1), 1);
    }

    private void bestOfSomeOut() {
        WalkingStreets x = Checks.town("c3 1;c2 1;c2 1;c1 1;q1 2;d9;gffff;");
        same("most stand, then fewest near, then the lowest last cell", Checks.bestRow(x), "1302");
        due("two stand", x.best(-1), 2);
        due("not near", x.best(-2), 0);
        due("the last cell", x.best(-3), 2);
        x.floods(3, 1);
        same("three cells", Checks.bestRow(x), "1302");
        due("two stand on three", x.best(-1), 2);
        due("the last of three", x.best(-3), 2);
        x.floods(1, 1);
        same("one cell and one", Checks.bestRow(x), "3012");
        due("one stands", x.best(-1), 1);
        due("at", x.best(-3), 0);
        x.floods(0, 1);
        x.floods(2, 1);
        same("none stands", Checks.bestRow(x), "0123");
        due("no one", x.best(-1), 0);
        due("no last cell", x.best(-3), NONE);
        WalkingStreets y = Checks.town("c1 1;c1 1;c1 1;q0 2;q1 2;d1;gfff;");
        same("a feud on both sides", Checks.bestRow(y), "012");
        due("one is near at least", y.best(-2), 1);
        same("as it is seen again", Checks.bestRow(y), "012");
        y.loses(2, 1);
        same("without the last one", Checks.bestRow(y), "01");
        due("two stand without it", y.best(-1), 2);
        due("no third one", y.best(2), NONE);
        y.loses(2, 0);
        y.loses(0, 1);
        same("without the first one", Checks.bestRow(y), "12");
        due("two stand without that", y.best(-1), 2);
        WalkingStreets z = Checks.town("c1 1;c2 1;q0 1;d9;gfrff;");
        due("the whole order by numbers", z.best(0), 0);
        z.pin(0);
        due("not by how they stand", z.best(0), 0);
    }

    // Promise 21
    private void ropes() {
        WalkingStreets x = Checks.town("c2 1;c2 1;c2 1;gfrfrffrffr;");
        ropesAre(x, 1, 1, NONE, NONE);
        due("nothing is changed", x.ground(1), 2);
        due("ropes(4)", x.ropes(4), BAD);
        due("ropes(-1)", x.ropes(-1), BAD);
        for (int far : FAR) {
            due("ropes(" + far + ")", x.ropes(far), BAD);
        }
        x.floods(1, 0);
        ropesAre(x, 0, NONE, NONE, NONE);
        ropesAre(Checks.town("c3 1;gfrrrf;"), 2, 1, 2, NONE);
        ropesAre(Checks.town("c4 1;gfrrrf;"), 3, 1, 2, 3);
        WalkingStreets wide = Checks.town("c5 1;gfrrrrf;");
        ropesAre(wide, NONE, NONE, NONE, NONE);
        wide.loses(0, 1);
        ropesAre(wide, 0, NONE, NONE, NONE);
        ropesAre(Checks.town("c1 1;"), NONE, NONE, NONE, NONE);
        ropesAre(Checks.town("c1 1;grr;"), 1, 0, NONE, NONE);
        ropesAre(Checks.town("c2 1;c2 1;grfffr;"), 1, 0, NONE, NONE);
        ropesAre(Checks.town("c1 1;c3 1;gfrrffrrf;"), 1, 2, NONE, NONE);
        WalkingStreets y = Checks.town("c1 1;c2 1;gfrf;");
        ropesAre(y, 1, 1, NONE, NONE);
        y.late(1, 1);
        ropesAre(y, 1, 1, NONE, NONE);
        y.loses(1, 1);
        ropesAre(y, 0, NONE, NONE, NONE);
        y.widens(0);
        ropesAre(y, 1, 1, NONE, NONE);
        y.floods(0, 1);
        ropesAre(y, 1, 1, NONE, NONE);
        y.floods(2, 1);
        ropesAre(y, 2, 0, 1, NONE);
        y.loses(0, 1);
        ropesAre(y, 0, NONE, NONE, NONE);
        String far = "c6 1;c6 1;g" + "r".repeat(3) + "f".repeat(9) + "r".repeat(28) + ";";
        ropesAre(Checks.town(far), 3, 0, 1, 2);
        String later = "c6 1;c6 1;g" + "r".repeat(20) + "f".repeat(5) + "r".repeat(7) + "f".repeat(4) + "rrrr;";
        ropesAre(Checks.town(later), 3, 19, 30, 31);
    }

    private void ropesAre(WalkingStreets x, int many, int first, int second, int third) {
        due("ropes(0)", x.ropes(0), many);
        due("ropes(1)", x.ropes(1), first);
        due("ropes(2)", x.ropes(2), second);
        due("ropes(3)", x.ropes(3), third);
    }

    // Promise 22
    private void dark() {
        // Hours: 7 (20 by 3, cut upwards), 3, 10.
        WalkingStreets x = Checks.town(THREE);
        due("dark(6)", x.dark(6), 0);
        due("dark(7)", x.dark(7), 2);
        due("dark(9)", x.dark(9), 2);
        due("dark(10)", x.dark(10), 3);
        due("dark(60)", x.dark(60), 3);
        due("dark(1)", x.dark(1), 0);
        due("dark(0)", x.dark(0), BAD);
        due("dark(61)", x.dark(61), BAD);
        for (int far : FAR) {
            due("dark(" + far + ")", x.dark(far), BAD);
        }
        x.late(0, 1);
        due("late ones set off too", x.dark(7), 2);
        x.storm();
        due("nobody is overtaken", x.dark(9), 0);
        x.loses(2, 1);
        due("without the slow one", x.dark(3), 1);
        due("exactly by pace", Checks.town("c1 3;m9;").dark(3), 1);
        due("not an hour sooner", Checks.town("c1 3;m9;").dark(2), 0);
        due("those out set off too", Checks.town("c1 9;c1 1;").dark(9), 2);
        due("the slowest", Checks.town("c1 1;m60;").dark(60), 1);
        due("not by 59", Checks.town("c1 1;m60;").dark(59), 0);
    }

    // Promise 23
    private void soon() {
        // Hours: 7, 3, 10.
        WalkingStreets x = Checks.town(THREE);
        soonIs(x, 1, 0, "012");
        soonIs(x, 3, 1, "102");
        soonIs(x, 7, 2, "012");
        soonIs(x, 10, 3, "012");
        x.storm();
        x.late(1, 1);
        soonIs(x, 3, 1, "102");
        due("soon(3, 3)", x.soon(3, 3), NONE);
        due("soon(3, 6)", x.soon(3, 6), NONE);
        due("soon(3, 7)", x.soon(3, 7), BAD);
        due("soon(3, -2)", x.soon(3, -2), BAD);
        due("soon(0, 0)", x.soon(0, 0), BAD);
        due("soon(61, 0)", x.soon(61, 0), BAD);
        due("soon(60, -1)", x.soon(60, -1), 3);
        for (int far : FAR) {
            due("soon(" + far + ", 0)", x.soon(far, 0), BAD);
            due("soon(3, " + far + ")", x.soon(3, far), BAD);
        }
        x.loses(1, 1);
        soonIs(x, 7, 1, "02");
        soonIs(x, 3, 0, "02");
        due("no third", x.soon(7, 2), NONE);
        soonIs(Checks.town("c1 1;c1 9;c1 2;c1 8;"), 2, 2, "1302");
    }

    private void soonIs(WalkingStreets x, int h, int many, String order) {
        due("soon(" + h + ", -1)", x.soon(h, -1), many);
        StringBuilder text = new StringBuilder();
        for (int i = 0; i < order.length(); i++) {
            text.append(x.soon(h, i));
        }
        same("soon by " + h, text.toString(), order);
    }

    // Promise 24
    private void saw() {
        WalkingStreets x = Checks.town(THREE);
        due("saw(0, 1)", x.saw(0, 1), 1);
        due("saw(0, 1) again", x.saw(0, 1), 2);
        due("saw(0, 0)", x.saw(0, 0), BAD);
        due("saw(0, 3)", x.saw(0, 3), BAD);
        due("saw(3, 0)", x.saw(3, 0), BAD);
        due("saw(-1, 0)", x.saw(-1, 0), BAD);
        for (int far : FAR) {
            due("saw(" + far + ", 0)", x.saw(far, 0), BAD);
            due("saw(0, " + far + ")", x.saw(0, far), BAD);
        }
        x.loses(2, 1);
        due("saw of a lost one", x.saw(2, 0), 3);
        due("saw the other way", x.saw(1, 0), 4);
        due("the fifth", x.saw(1, 2), 5);
        due("the sixth", x.saw(2, 1), 6);
        due("the seventh", x.saw(0, 1), FULL);
        due("BAD is ahead of FULL", x.saw(1, 1), BAD);
        due("SEEN", x.count(4), 6);
        due("it is not undone", x.count(5), 1);
    }

    // Promise 25
    private void forget() {
        WalkingStreets x = Checks.town(THREE);
        due("forget nothing", x.forget(), 0);
        x.saw(1, 0);
        x.saw(0, 2);
        due("who fits neither", x.who(), 0);
        due("forget", x.forget(), 2);
        due("SEEN then", x.count(4), 0);
        due("all fit then", x.who(), 7 | 128);
        due("saw after that", x.saw(0, 1), 1);
    }

    // Promise 26
    private void who() {
        WalkingStreets x = Checks.town("c1 1;c1 1;c1 1;c1 1;gf;");
        due("nothing seen", x.who(), 15 | 128);
        x.saw(0, 2);
        due("0 right ahead of 2", x.who(), 2);
        x.forget();
        x.saw(0, 1);
        due("0 right ahead of 1", x.who(), 4 | 8 | 128);
        x.saw(3, 2);
        due("and 3 of 2", x.who(), 4);
        x.saw(2, 3);
        due("both ways", x.who(), 0);
        x.forget();
        x.saw(3, 1);
        due("behind all others", x.who(), 2);
        x.forget();
        x.saw(2, 3);
        due("the last one's pin changes nothing", x.who(), 1 | 2 | 8 | 128);
        x.late(0, 1);
        due("whoever is late", x.who(), 1 | 2 | 8 | 128);
        x.loses(1, 1);
        due("only those of the order", x.who(), 1 | 8 | 128);
        x.saw(0, 1);
        due("a lost one stands nowhere", x.who(), 0);
        same("nothing is changed", Checks.row(x), "023");
        x.forget();
        x.storm();
        x.saw(2, 0);
        due("in the order as it is", x.who(), 1 | 8 | 128);
    }

    // Promise 27
    private void odds() {
        WalkingStreets x = Checks.town("c1 1;c1 1;gff;");
        oddsAre(x, 0, 0, 3, 79, 100);
        oddsAre(x, 0, 1, 3, 21, 100);
        oddsAre(x, 1, 0, 3, 21, 100);
        oddsAre(x, 1, 1, 5, 3, 4);
        oddsAre(x, 0, 0, 1, 91, 100);
        oddsAre(x, 0, 0, 0, 1, 1);
        oddsAre(x, 1, 0, 0, 0, 1);
        oddsAre(x, 0, 0, 10, 1, 1);
        oddsAre(x, 0, 1, 10, 0, 1);
        x.late(0, 1);
        oddsAre(x, 0, 0, 3, 79, 100);
        x.nine();
        oddsAre(x, 0, 0, 3, 21, 100);
        due("odds(2, 0, 3, 0)", x.odds(2, 0, 3, 0), BAD);
        due("odds(-1, 0, 3, 0)", x.odds(-1, 0, 3, 0), BAD);
        due("odds(0, 2, 3, 0)", x.odds(0, 2, 3, 0), BAD);
        due("odds(0, -1, 3, 0)", x.odds(0, -1, 3, 0), BAD);
        due("odds(0, 0, 11, 0)", x.odds(0, 0, 11, 0), BAD);
        due("odds(0, 0, -1, 0)", x.odds(0, 0, -1, 0), BAD);
        due("odds(0, 0, 3, 2)", x.odds(0, 0, 3, 2), BAD);
        due("odds(0, 0, 3, -1)", x.odds(0, 0, 3, -1), BAD);
        for (int far : FAR) {
            due("odds, far cart", x.odds(far, 0, 3, 0), BAD);
            due("odds, far cell", x.odds(0, far, 3, 0), BAD);
            due("odds, far x", x.odds(0, 0, far, 0), BAD);
            due("odds, far what", x.odds(0, 0, 3, far), BAD);
        }
        due("odds without ground", Checks.town("c1 1;").odds(0, 0, 1, 0), BAD);
        x.loses(0, 1);
        oddsAre(x, 0, 0, 3, 0, 1);
        oddsAre(x, 1, 0, 3, 1, 1);
        x.loses(1, 1);
        oddsAre(x, 1, 0, 3, 0, 1);
        WalkingStreets y = Checks.town("c2 1;c1 1;gfrff;");
        oddsAre(y, 1, 0, 2, 4, 25);
        oddsAre(y, 0, 2, 2, 1, 1);
        oddsAre(y, 0, 3, 2, 0, 1);
        oddsAre(y, 0, 1, 2, 0, 1);
        WalkingStreets z = Checks.town("c1 1;".repeat(7) + "g" + "f".repeat(7) + ";");
        oddsAre(z, 0, 0, 5, 65, 128);
        oddsAre(z, 6, 0, 1, 9, 10000000);
    }

    private void oddsAre(WalkingStreets town, int c, int k, int x, int upper, int lower) {
        String call = "odds(" + c + ", " + k + ", " + x + ", ";
        due(call + "0)", town.odds(c, k, x, 0), upper);
        due(call + "1)", town.odds(c, k, x, 1), lower);
    }

    // Promise 28
    private void mark() {
        // Cart 2: axle 2, pace 2, cell 4, one feud; BREAKS is one cart.
        WalkingStreets x = Checks.town(THREE);
        int[] want = {2, 4, -2, 8, -1, 3};
        for (int kind = 0; kind < want.length; kind++) {
            due("mark(" + kind + ", 2)", x.mark(kind, 2), want[kind]);
        }
        due("mark(4, 1), two feuds", x.mark(4, 1), 1 - 3 + 2);
        due("mark(6, 0)", x.mark(6, 0), NO);
        due("mark(-1, 0)", x.mark(-1, 0), NO);
        due("mark(0, 3)", x.mark(0, 3), NO);
        due("mark(0, -1)", x.mark(0, -1), NO);
        for (int far : FAR) {
            due("mark(" + far + ", 0)", x.mark(far, 0), NO);
            due("mark(0, " + far + ")", x.mark(0, far), NO);
        }
        x.widens(2);
        due("its axle now", x.mark(0, 2), 3);
        x.late(2, 1);
        due("less 0 without a cell", x.mark(2, 2), 3);
        due("a dyer without a cell", x.mark(4, 2), 4);
        x.loses(2, 1);
        due("a lost one", x.mark(3, 2), 10);
        WalkingStreets y = Checks.town("c1 1;c1 1;c1 1;gfrfrf;");
        due("two break", y.mark(5, 0), 3);
    }

    // Promise 29
    private void keep() {
        WalkingStreets x = Checks.town(THREE);
        x.loses(1, 1);
        due("keep(0)", x.keep(0), 2);
        due("keep(1)", x.keep(1), 2);
        due("keep(2)", x.keep(2), BAD);
        due("keep(-1)", x.keep(-1), BAD);
        for (int far : FAR) {
            due("keep(" + far + ")", x.keep(far), BAD);
        }
        due("it is not undone", x.count(5), 1);
        x.loses(1, 0);
        due("keep(0) anew", x.keep(0), 3);
        due("the other image stays", x.back(1), 2);
        due("the new one is kept", x.back(0), 3);
        WalkingStreets y = new WalkingStreets();
        due("keep of nothing", y.keep(1), 0);
        due("back to nothing", y.back(1), 0);
    }

    // Promise 30
    private void back() {
        WalkingStreets x = Checks.town(THREE);
        due("back(0) of none", x.back(0), STATE);
        due("back(2)", x.back(2), BAD);
        due("back(-1)", x.back(-1), BAD);
        for (int far : FAR) {
            due("back(" + far + ")", x.back(far), BAD);
        }
        x.pin(0);
        x.late(1, 1);
        x.widens(2);
        x.floods(7, 1);
        x.loses(0, 1);
        x.keep(0);
        due("the other one is not kept", x.back(1), STATE);
        x.loses(0, 0);
        x.late(1, 0);
        x.storm();
        x.widens(2);
        x.floods(7, 0);
        x.saw(0, 2);
        x.mark(0, 0);
        due("back(0)", x.back(0), 2);
        same("the order", Checks.row(x), "12");
        due("who is late", x.now(7), 2);
        due("who is lost", x.cart(0, 3), 1);
        due("an axle", x.cart(2, 0), 3);
        due("a flood", x.ground(7), 2);
        due("what may be undone", x.count(5), 5);
        due("what was seen is not kept", x.count(4), 1);
        due("nor the trace", x.trace(), 1);
        same("cells", Checks.cells(x), "- - 3");
        due("undo", x.undo(), 4);
        same("as ahead of LOST", Checks.row(x), "120");
        due("undo again", x.undo(), 3);
        due("undo the third", x.undo(), 2);
        due("undo the fourth", x.undo(), 1);
        due("undo the fifth", x.undo(), 0);
        same("as told", Checks.row(x), "012");
        x.storm();
        due("the image is as it was", x.back(0), 2);
        due("with all that may be undone", x.count(5), 5);
        due("undo of the image", x.undo(), 4);
        due("back twice", x.back(0), 2);
        same("the order again", Checks.row(x), "12");
        WalkingStreets y = Checks.town("c1 1;c1 1;c1 1;");
        y.pin(0);
        y.storm();
        y.keep(1);
        y.undo();
        y.undo();
        y.storm();
        y.widens(0);
        y.back(1);
        due("undo of what was kept", y.undo(), 1);
        same("as ahead of STORM", Checks.row(y), "120");
        due("undo of the oldest that was kept", y.undo(), 0);
        same("as ahead of PIN", Checks.row(y), "012");
        y.back(1);
        for (int i = 0; i < 12; i++) {
            y.pin(y.order(0));
        }
        y.keep(0);
        due("back to what was kept long ago", y.back(1), 3);
        due("undo of that", y.undo(), 1);
        due("undo of its oldest", y.undo(), 0);
        same("as ahead of its oldest", Checks.row(y), "012");
        due("back to a full past", y.back(0), 3);
        due("ten may be undone", y.count(5), 10);
        due("nine then", y.undo(), 9);
    }

    // Promise 31
    private void count() {
        WalkingStreets x = Checks.town(THREE);
        x.storm();
        x.late(0, 1);
        x.saw(0, 1);
        Checks.type(x, "c1");
        int[] want = {3, 10, 2, 20, 1, 2, 2};
        for (int what = 0; what < want.length; what++) {
            due("count(" + what + ")", x.count(what), want[what]);
        }
        x.loses(0, 1);
        due("lost ones are carts", x.count(0), 3);
        due("count(7)", x.count(7), BAD);
        due("count(-1)", x.count(-1), BAD);
        for (int far : FAR) {
            due("count(" + far + ")", x.count(far), BAD);
        }
    }

    // Promise 32
    private void trace() {
        WalkingStreets x = Checks.town(THREE);
        long[] want = {1, 11, 101, 1011, 10101, 100001};
        long sum = 0;
        for (int kind = 0; kind < want.length; kind++) {
            x.mark(kind, 0);
            sum += want[kind];
            due("trace after mark(" + kind + ", 0)", x.trace(), sum);
        }
        x.mark(6, 0);
        x.mark(0, 3);
        due("trace after marks refused", x.trace(), sum);
        x.storm();
        x.mark(3, 1);
        x.undo();
        due("trace is not undone", x.trace(), sum + 1011);
    }

    private PromiseTests() {
    }
}
