import java.util.EnumSet;
import java.util.Set;

/**
 * "Refused, and nothing changes": two towns with the same calls behind them, of which only one has the call
 * that is refused, must answer all the same. So too what only asks; what does something changes its part alone.
 */
final class UnchangedTests {
    private static final int BAD = WalkingStreets.BAD;
    private static final int STATE = WalkingStreets.STATE;
    private static final int FULL = WalkingStreets.FULL;
    private static final int NONE = WalkingStreets.NONE;
    private static final int NO = WalkingStreets.NO;
    private static final int[] FAR = Checks.FAR;
    private static final int MOST = 300;

    /** What an object holds, in parts that can be told apart by calls. */
    private enum Part { NIGHT, TEXT, PAST, IMAGE0, IMAGE1, SEEN, TRACE }

    private interface Making {
        WalkingStreets make();
    }

    private interface Call {
        long of(WalkingStreets x);
    }

    private final Checks checks = new Checks();

    public static void main(String[] args) {
        UnchangedTests tests = new UnchangedTests();
        tests.makings();
        tests.refusedByNew();
        tests.refusedText();
        tests.refusedFaults();
        tests.refusedQuestions();
        tests.refusedTwos();
        tests.refusedBest();
        tests.refusedOdds();
        tests.refusedChanges();
        tests.refusedStates();
        tests.refusedSeen();
        tests.refusedMarks();
        tests.refusedImages();
        tests.orderOfWhatIsRefused();
        tests.asked();
        tests.changedAlone();
        tests.readAnewAlone();
        tests.undoneWholly();
        tests.refusedIsNotUndone();
        tests.checks.end();
    }

    // ---- towns

    private static WalkingStreets fresh() {
        return Checks.town("c2 3;c6 9;c3 2;c1 5;c1 1;q0 1;q2 4;q1 3;d3;m20;gfffrffhhfrffffffhfr;");
    }

    /** Cart 4 is lost, 2 and 3 are late, 1 is at 6; ten to undo, six seen, two images, a text begun. */
    private static WalkingStreets rich() {
        WalkingStreets x = fresh();
        x.late(3, 1);
        x.widens(0);
        x.keep(0);
        x.storm();
        x.floods(3, 0);
        x.pin(2);
        x.loses(4, 1);
        x.keep(1);
        x.loses(0, 1);
        x.late(2, 1);
        x.loses(0, 0);
        x.storm();
        x.floods(12, 1);
        x.pin(0);
        x.floods(7, 1);
        int[] ahead = {0, 1, 2, 3, 0, 3};
        int[] behind = {1, 3, 4, 2, 1, 0};
        for (int i = 0; i < ahead.length; i++) {
            x.saw(ahead[i], behind[i]);
        }
        x.mark(4, 1);
        Checks.type(x, "c1 1");
        return x;
    }

    private static WalkingStreets fullText() {
        WalkingStreets x = fresh();
        Checks.type(x, "c4 4;" + " ".repeat(175));
        return x;
    }

    private void makings() {
        WalkingStreets x = rich();
        checks.same("the rich town's order", Checks.row(x), "2130");
        checks.due("who is late in it", x.now(7), 12);
        checks.due("lost in it", x.cart(4, 3), 1);
        checks.due("at 6 in it", x.cart(1, 0), 6);
        checks.due("to be undone in it", x.count(5), 10);
        checks.due("seen in it", x.count(4), 6);
        checks.due("typed in it", x.count(6), 4);
        checks.due("images in it", x.back(0) + x.back(1), 9);
        WalkingStreets y = fresh();
        checks.due("items of the fresh town", y.count(0) * 100 + y.count(1), 519);
        checks.due("typed in the full one", fullText().count(6), 180);
    }

    // ---- what a town holds

    private static String told(WalkingStreets x, Part part) {
        switch (part) {
            case NIGHT:
                return night(x);
            case TEXT:
                return text(x);
            case PAST:
                return past(x);
            case IMAGE0:
                return image(x, 0);
            case IMAGE1:
                return image(x, 1);
            case SEEN:
                return seen(x);
            default:
                return String.valueOf(x.trace());
        }
    }

    private static String night(WalkingStreets x) {
        StringBuilder text = new StringBuilder();
        for (int what = 0; what < 4; what++) {
            text.append(x.count(what)).append(' ');
        }
        text.append(scene(x)).append('|');
        for (int what = 0; what < 8; what++) {
            text.append(x.now(what)).append(' ');
        }
        for (int i = -3; i < 7; i++) {
            text.append(x.best(i)).append(' ');
        }
        for (int i = 0; i < 4; i++) {
            text.append(x.ropes(i)).append(' ');
        }
        for (int h = 1; h <= 60; h += 7) {
            text.append(x.dark(h)).append(' ').append(x.soon(h, -1)).append(' ').append(x.soon(h, 0)).append(' ');
        }
        for (int k = 0; k < x.count(1); k++) {
            text.append(x.takes(k)).append(' ').append(x.odds(k % 3, k, 3, 0)).append(' ');
        }
        for (int c = 0; c < x.count(0); c++) {
            text.append(x.cart(c, 1)).append(' ').append(x.cart(c, 4)).append(' ');
            text.append(x.between(c, 0)).append(' ').append(x.windward(1, c)).append(' ');
        }
        return text.toString();
    }

    /** What may be undone of a night, and where each stands by it. */
    private static String scene(WalkingStreets x) {
        StringBuilder text = new StringBuilder(Checks.row(x)).append(' ');
        for (int c = 0; c < x.count(0); c++) {
            text.append(x.cart(c, 0)).append('/').append(x.cart(c, 2)).append('/').append(x.cart(c, 3)).append('/');
            text.append(x.cart(c, 5)).append('/').append(x.cart(c, 6)).append(' ');
        }
        for (int k = 0; k < x.count(1); k++) {
            text.append(x.ground(k));
        }
        return text.toString();
    }

    private static String text(WalkingStreets x) {
        StringBuilder text = new StringBuilder().append(x.count(6)).append(' ');
        text.append(x.type(';')).append(' ').append(x.town()).append(' ').append(x.count(0));
        return text.append(scene(x)).toString();
    }

    private static String past(WalkingStreets x) {
        StringBuilder text = new StringBuilder().append(x.count(5));
        int left = x.undo();
        for (int i = 0; i < MOST && left >= 0; i++) {
            text.append('\n').append(left).append(": ").append(scene(x));
            left = x.undo();
        }
        return text.append(left).toString();
    }

    private static String image(WalkingStreets x, int image) {
        int many = x.back(image);
        return many < 0 ? String.valueOf(many) : many + " " + scene(x) + past(x);
    }

    /** THE ORDER is put as it was told first: who() asks what was seen, by THE ORDER. */
    private static String seen(WalkingStreets x) {
        StringBuilder text = new StringBuilder().append(x.count(4));
        for (int c = 0; c < x.count(0); c++) {
            x.loses(c, 1);
        }
        for (int c = 0; c < x.count(0); c++) {
            x.loses(c, 0);
        }
        for (int c = 0; c < x.count(0); c++) {
            text.append(' ').append(x.who());
            x.pin(x.order(0));
        }
        return text.append(' ').append(x.forget()).toString();
    }

    // ---- comparing

    private void unchanged(String what, Making making, Call call, Set<Part> changed) {
        for (Part part : Part.values()) {
            WalkingStreets touched = making.make();
            call.of(touched);
            String got = told(touched, part);
            String before = told(making.make(), part);
            if (changed.contains(part)) {
                checks.holds(what + " changes " + part, !got.equals(before));
            } else {
                checks.same(what + ": " + part + " behind it", got, before);
            }
        }
    }

    private void asks(String what, Making making, Call call) {
        unchanged(what, making, call, Set.of());
    }

    private void refused(String what, Making making, Call call, long answer) {
        WalkingStreets x = making.make();
        checks.due(what, call.of(x), answer);
        checks.due(what + ", asked again", call.of(x), answer);
        asks(what, making, call);
    }

    private void bad(String what, Call call) {
        refused(what, UnchangedTests::rich, call, BAD);
    }

    private void state(String what, Making making, Call call) {
        refused(what, making, call, STATE);
    }

    // ---- what is refused

    private void refusedByNew() {
        Making none = WalkingStreets::new;
        refused("cart of a new one", none, x -> x.cart(0, 0), BAD);
        refused("ground of a new one", none, x -> x.ground(0), BAD);
        refused("takes of a new one", none, x -> x.takes(0), BAD);
        refused("late of a new one", none, x -> x.late(0, 1), BAD);
        refused("pin of a new one", none, x -> x.pin(0), BAD);
        refused("widens of a new one", none, x -> x.widens(0), BAD);
        refused("floods of a new one", none, x -> x.floods(0, 1), BAD);
        refused("loses of a new one", none, x -> x.loses(0, 1), BAD);
        refused("order of a new one", none, x -> x.order(0), BAD);
        refused("between of a new one", none, x -> x.between(0, 1), BAD);
        refused("windward of a new one", none, x -> x.windward(0, 1), BAD);
        refused("saw of a new one", none, x -> x.saw(0, 1), BAD);
        refused("odds of a new one", none, x -> x.odds(0, 0, 1, 0), BAD);
        refused("mark of a new one", none, x -> x.mark(0, 0), NO);
        state("undo of a new one", none, x -> x.undo());
        state("back of a new one", none, x -> x.back(0));
    }

    private void refusedText() {
        for (int b : new int[] {-1, 256, Integer.MIN_VALUE, Integer.MAX_VALUE}) {
            bad("type(" + b + ")", x -> x.type(b));
            refused("type(" + b + ") when full", UnchangedTests::fullText, x -> x.type(b), BAD);
        }
        refused("type(0) when full", UnchangedTests::fullText, x -> x.type(0), FULL);
        refused("type(32) when full", UnchangedTests::fullText, x -> x.type(32), FULL);
        refused("type(255) when full", UnchangedTests::fullText, x -> x.type(255), FULL);
    }

    private void refusedFaults() {
        refused("a text that ends too early", UnchangedTests::rich, x -> x.town(), -14);
        String[] faults = {"x;", "c0 1;", "c7 1;", "c1 0;", "c1 10;", "c1 1;c1 1;q0 2;", "c1 1;q0 0;", "d0;", "d10;",
            "d1;d1;", "m0;", "m61;", "m1;m1;", "g;", "gx;", "gf;gf;", "g" + "f".repeat(41) + ";", "c01 1;", "m100;",
            "c1 1;".repeat(8), "c5 5;d7;m7;ghhh;?", "gff", ";"};
        int[] places = {0, 1, 1, 3, 3, 13, 8, 1, 1, 3, 1, 1, 3, 1, 1, 3, 41, 1, 1, 35, 16, 3, 0};
        for (int i = 0; i < faults.length; i++) {
            String fault = faults[i];
            Making typed = () -> {
                WalkingStreets x = rich();
                x.clear();
                Checks.type(x, fault);
                return x;
            };
            refused("town of '" + fault + "'", typed, x -> x.town(), -10 - places[i]);
        }
    }

    private void refusedQuestions() {
        for (int what : new int[] {-1, 7}) {
            bad("cart(0, " + what + ")", x -> x.cart(0, what));
            bad("count(" + what + ")", x -> x.count(what));
            bad("now(" + (what < 0 ? what : 8) + ")", x -> x.now(what < 0 ? what : 8));
        }
        for (int c : new int[] {-1, 5, 7}) {
            bad("cart(" + c + ", 0)", x -> x.cart(c, 0));
        }
        for (int k : new int[] {-1, 19, 40}) {
            bad("ground(" + k + ")", x -> x.ground(k));
            bad("takes(" + k + ")", x -> x.takes(k));
        }
        for (int i : new int[] {-1, 4, 5}) {
            bad("order(" + i + ")", x -> x.order(i));
        }
        for (int far : FAR) {
            bad("cart(" + far + ", 0)", x -> x.cart(far, 0));
            bad("cart(0, " + far + ")", x -> x.cart(0, far));
            bad("count(" + far + ")", x -> x.count(far));
            bad("now(" + far + ")", x -> x.now(far));
            bad("ground(" + far + ")", x -> x.ground(far));
            bad("takes(" + far + ")", x -> x.takes(far));
            bad("order(" + far + ")", x -> x.order(far));
        }
    }

    private void refusedTwos() {
        int[][] twos = {{0, 0}, {4, 4}, {2, 2}, {-1, 0}, {0, -1}, {5, 0}, {0, 5}, {5, 5}, {-1, -1}, {FAR[0], 0},
            {0, FAR[0]}, {FAR[3], 0}, {0, FAR[3]}, {FAR[3], FAR[0]}};
        for (int[] two : twos) {
            String text = "(" + two[0] + ", " + two[1] + ")";
            bad("between" + text, x -> x.between(two[0], two[1]));
            bad("windward" + text, x -> x.windward(two[0], two[1]));
            bad("saw" + text, x -> x.saw(two[0], two[1]));
        }
    }

    private void refusedBest() {
        for (int i : new int[] {-4, 7, FAR[0], FAR[3]}) {
            bad("best(" + i + ")", x -> x.best(i));
        }
        for (int what : new int[] {-1, 4, FAR[0], FAR[3]}) {
            bad("ropes(" + what + ")", x -> x.ropes(what));
        }
        for (int h : new int[] {-1, 0, 61, FAR[0], FAR[3]}) {
            bad("dark(" + h + ")", x -> x.dark(h));
            bad("soon(" + h + ", 0)", x -> x.soon(h, 0));
            bad("soon(" + h + ", -1)", x -> x.soon(h, -1));
        }
        for (int i : new int[] {-2, 7, FAR[0], FAR[3]}) {
            bad("soon(1, " + i + ")", x -> x.soon(1, i));
            bad("soon(60, " + i + ")", x -> x.soon(60, i));
        }
    }

    private void refusedOdds() {
        for (int c : new int[] {-1, 5, 7, FAR[0], FAR[3]}) {
            bad("odds of cart " + c, x -> x.odds(c, 0, 1, 0));
        }
        for (int k : new int[] {-1, 19, 40, FAR[0], FAR[3]}) {
            bad("odds at cell " + k, x -> x.odds(0, k, 1, 0));
        }
        for (int by : new int[] {-1, 11, FAR[0], FAR[3]}) {
            bad("odds by " + by, x -> x.odds(0, 0, by, 0));
        }
        for (int what : new int[] {-1, 2, FAR[0], FAR[3]}) {
            bad("odds, what " + what, x -> x.odds(0, 0, 1, what));
        }
    }

    private void refusedChanges() {
        for (int c : new int[] {-1, 5, 7, FAR[0], FAR[3]}) {
            bad("late(" + c + ", 1)", x -> x.late(c, 1));
            bad("late(" + c + ", 0)", x -> x.late(c, 0));
            bad("pin(" + c + ")", x -> x.pin(c));
            bad("widens(" + c + ")", x -> x.widens(c));
            bad("loses(" + c + ", 1)", x -> x.loses(c, 1));
            bad("loses(" + c + ", 0)", x -> x.loses(c, 0));
        }
        for (int k : new int[] {-1, 19, 40, FAR[0], FAR[3]}) {
            bad("floods(" + k + ", 1)", x -> x.floods(k, 1));
            bad("floods(" + k + ", 0)", x -> x.floods(k, 0));
        }
        for (int is : new int[] {-1, 2, FAR[0], FAR[3]}) {
            bad("late(0, " + is + ")", x -> x.late(0, is));
            bad("loses(0, " + is + ")", x -> x.loses(0, is));
            bad("floods(0, " + is + ")", x -> x.floods(0, is));
        }
    }

    private void refusedStates() {
        Making rich = UnchangedTests::rich;
        state("late of a late one", rich, x -> x.late(2, 1));
        state("there of one that is there", rich, x -> x.late(0, 0));
        state("late of a lost one", rich, x -> x.late(4, 1));
        state("there of a lost one", rich, x -> x.late(4, 0));
        state("pin of a lost one", rich, x -> x.pin(4));
        state("pin of the last one", rich, x -> x.pin(0));
        state("widens at 6", rich, x -> x.widens(1));
        state("flood of a told river", rich, x -> x.floods(9, 1));
        state("flood of a flooded cell", rich, x -> x.floods(12, 1));
        state("flood of a flooded hill", rich, x -> x.floods(7, 1));
        state("dry of a flat cell", rich, x -> x.floods(0, 0));
        state("dry of a hill", rich, x -> x.floods(6, 0));
        state("dry of a river that is dry already", rich, x -> x.floods(3, 0));
        state("lost of a lost one", rich, x -> x.loses(4, 1));
        state("found of one that is there", rich, x -> x.loses(0, 0));
        state("found of a late one", rich, x -> x.loses(2, 0));
        state("undo of nothing", UnchangedTests::fresh, x -> x.undo());
        Making undone = () -> {
            WalkingStreets x = rich();
            for (int i = 0; i < 10; i++) {
                x.undo();
            }
            return x;
        };
        state("undo beyond ten", undone, x -> x.undo());
    }

    private void refusedSeen() {
        refused("saw when full", UnchangedTests::rich, x -> x.saw(0, 1), FULL);
        refused("saw of a lost one when full", UnchangedTests::rich, x -> x.saw(4, 0), FULL);
    }

    private void refusedMarks() {
        for (int kind : new int[] {-1, 6, FAR[0], FAR[3]}) {
            refused("mark(" + kind + ", 0)", UnchangedTests::rich, x -> x.mark(kind, 0), NO);
        }
        for (int c : new int[] {-1, 5, 7, FAR[0], FAR[3]}) {
            for (int kind = 0; kind < 6; kind++) {
                int as = kind;
                refused("mark(" + kind + ", " + c + ")", UnchangedTests::rich, x -> x.mark(as, c), NO);
            }
        }
    }

    private void refusedImages() {
        for (int image : new int[] {-1, 2, FAR[0], FAR[3]}) {
            bad("keep(" + image + ")", x -> x.keep(image));
            bad("back(" + image + ")", x -> x.back(image));
        }
        state("back(0) of none", UnchangedTests::fresh, x -> x.back(0));
        state("back(1) of none", UnchangedTests::fresh, x -> x.back(1));
        Making one = () -> {
            WalkingStreets x = fresh();
            x.storm();
            x.keep(1);
            return x;
        };
        state("back(0) of the other one", one, x -> x.back(0));
    }

    // "the first of these: BAD .., STATE .., FULL"
    private void orderOfWhatIsRefused() {
        bad("late of a lost one, not 0 or 1", x -> x.late(4, 2));
        bad("late of a late one, not 0 or 1", x -> x.late(2, -1));
        bad("loses of a lost one, not 0 or 1", x -> x.loses(4, 2));
        bad("floods of a river, not 0 or 1", x -> x.floods(9, 2));
        bad("floods of a flat one, not 0 or 1", x -> x.floods(0, -1));
        bad("saw of alike ones when full", x -> x.saw(1, 1));
        bad("saw of none when full", x -> x.saw(5, 1));
        refused("back(2) if none was kept", UnchangedTests::fresh, x -> x.back(2), BAD);
    }

    // ---- what only asks ("Nothing is changed."), and what changes its part alone

    private void asked() {
        for (Making making : new Making[] {UnchangedTests::rich, UnchangedTests::fresh, WalkingStreets::new}) {
            asks("night", making, x -> night(x).length());
            asks("the counts", making, x -> x.count(4) + x.count(5) + x.count(6) + x.trace());
            asks("who", making, x -> x.who());
            asks("best", making, x -> x.best(0));
            asks("ropes", making, x -> x.ropes(0));
            asks("odds", making, x -> x.odds(1, 2, 5, 0) + x.odds(4, 2, 5, 1));
            asks("soon", making, x -> x.soon(4, 3));
            asks("clear of an empty text", making, x -> x.count(6) == 0 ? x.clear() : 0);
            asks("forget of nothing", making, x -> x.count(4) == 0 ? x.forget() : 0);
        }
        WalkingStreets x = rich();
        checks.same("a night asked twice", night(x), night(x));
    }

    private void alone(String what, Call call, Part first, Part... others) {
        unchanged(what, UnchangedTests::rich, call, EnumSet.of(first, others));
    }

    private void changedAlone() {
        alone("type", x -> x.type(' '), Part.TEXT);
        alone("clear", x -> x.clear(), Part.TEXT);
        alone("late", x -> x.late(0, 1), Part.NIGHT, Part.PAST);
        alone("there", x -> x.late(3, 0), Part.NIGHT, Part.PAST);
        alone("nine", x -> x.nine(), Part.NIGHT, Part.PAST);
        alone("pin", x -> x.pin(2), Part.NIGHT, Part.PAST);
        alone("storm", x -> x.storm(), Part.NIGHT, Part.PAST);
        alone("widens", x -> x.widens(4), Part.NIGHT, Part.PAST);
        alone("floods", x -> x.floods(18, 0), Part.NIGHT, Part.PAST);
        alone("loses", x -> x.loses(0, 1), Part.NIGHT, Part.PAST);
        alone("finds", x -> x.loses(4, 0), Part.NIGHT, Part.PAST);
        alone("undo", x -> x.undo(), Part.NIGHT, Part.PAST);
        alone("back", x -> x.back(0), Part.NIGHT, Part.PAST);
        alone("back of the other", x -> x.back(1), Part.NIGHT, Part.PAST);
        alone("keep", x -> x.keep(0), Part.IMAGE0);
        alone("keep of the other", x -> x.keep(1), Part.IMAGE1);
        alone("forget", x -> x.forget(), Part.SEEN);
        alone("saw", x -> x.forget() + x.saw(0, 1), Part.SEEN);
        for (int kind = 0; kind < 6; kind++) {
            int as = kind;
            alone("mark " + kind, x -> x.mark(as, 4), Part.TRACE);
        }
    }

    private void readAnewAlone() {
        Making typed = () -> {
            WalkingStreets x = rich();
            x.type(';');
            return x;
        };
        Set<Part> all = EnumSet.complementOf(EnumSet.of(Part.TRACE));
        unchanged("town", typed, x -> x.town(), all);
        unchanged("town of nothing", UnchangedTests::rich, x -> x.clear() + x.town(), all);
    }

    // "UNDONE: the latest of these .. : all is as ahead of it."
    private void undoneWholly() {
        Call[] changes = {x -> x.late(0, 1), x -> x.late(3, 0), x -> x.nine(), x -> x.pin(2), x -> x.storm(),
            x -> x.widens(4), x -> x.floods(0, 1), x -> x.floods(18, 0), x -> x.loses(0, 1), x -> x.loses(4, 0)};
        Making nine = () -> {
            WalkingStreets x = rich();
            x.undo();
            return x;
        };
        for (int i = 0; i < changes.length; i++) {
            Call change = changes[i];
            asks("change " + i + " undone", nine, x -> change.of(x) + x.undo());
            unchanged("change " + i + " undone, the oldest lost", UnchangedTests::rich,
                x -> change.of(x) + x.undo(), Set.of(Part.PAST));
            WalkingStreets x = rich();
            change.of(x);
            checks.due("ten may be undone behind change " + i, x.count(5), 10);
            checks.due("nine more behind undo", x.undo(), 9);
        }
    }

    private void refusedIsNotUndone() {
        WalkingStreets x = fresh();
        x.storm();
        x.late(0, 0);
        x.pin(0);
        x.floods(3, 1);
        x.loses(1, 0);
        x.widens(1);
        x.widens(NONE);
        checks.due("one may be undone", x.count(5), 1);
        checks.due("that is STORM", x.undo(), 0);
        checks.same("THE ORDER", Checks.row(x), "01234");
    }

    private UnchangedTests() {
    }
}
