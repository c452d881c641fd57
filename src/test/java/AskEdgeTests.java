/** The boundary cases of what is asked ('Terms' 3 and 4, promises 18 to 32): each method names its words. */
final class AskEdgeTests {
    private static final int BAD = WalkingStreets.BAD;
    private static final int STATE = WalkingStreets.STATE;
    private static final int FULL = WalkingStreets.FULL;
    private static final int NONE = WalkingStreets.NONE;
    private static final int NO = WalkingStreets.NO;
    private static final String SEVEN = "c1 1;c1 1;c1 1;c1 1;c1 1;c1 1;c1 1;";
    private static final int MOST = 20;

    private final Checks checks = new Checks();

    public static void main(String[] args) {
        AskEdgeTests tests = new AskEdgeTests();
        tests.between();
        tests.betweenNone();
        tests.bestOfNone();
        tests.bestOfSeven();
        tests.bestByMostStanding();
        tests.bestByFewestNear();
        tests.bestByLowestLast();
        tests.bestOfSeveral();
        tests.bestAsItIsNow();
        tests.bestFollowsEachChange();
        tests.ropesAtMost();
        tests.ropesOfSeveral();
        tests.ropesNow();
        tests.darkByHour();
        tests.darkOfTheOrder();
        tests.soonOfSeveral();
        tests.soonOfSeven();
        tests.seenAtMost();
        tests.whoOfEach();
        tests.whoOfTheLastOne();
        tests.oddsByTenths();
        tests.oddsInLeastTerms();
        tests.oddsWithoutACell();
        tests.oddsWhateverItIsNow();
        tests.marks();
        tests.marksWithoutACell();
        tests.marksOfMost();
        tests.traceOfEach();
        tests.imagesTwo();
        tests.imagesKeepTheNight();
        tests.imagesKeepThePast();
        tests.imagesAreGone();
        tests.counts();
        tests.checks.end();
    }

    private void due(String call, long got, long want) {
        checks.due(call, got, want);
    }

    private void same(String what, String got, String want) {
        checks.same(what, got, want);
    }

    // "how many CELLS are between what they take"; "takes lower CELLS"
    private void between() {
        for (int cells = 0; cells <= 38; cells++) {
            WalkingStreets x = Checks.town("c1 1;c1 1;gf" + "r".repeat(cells) + "f;");
            due("between over " + cells, x.between(0, 1), cells);
            due("the other way", x.between(1, 0), cells);
            due("windward", x.windward(0, 1), 1);
            due("leeward", x.windward(1, 0), 0);
        }
        WalkingStreets x = Checks.town("c6 1;c5 1;c1 1;g" + "f".repeat(12) + ";");
        due("over a wide one", x.between(0, 2), 5);
        due("right behind a wide one", x.between(1, 2), 0);
        x.storm();
        due("over a wide one, turned about", x.between(0, 2), 5);
        due("right ahead of a wide one", x.between(1, 2), 0);
        due("windward, turned about", x.windward(0, 2), 0);
    }

    private void betweenNone() {
        for (int one = 0; one < 2; one++) {
            WalkingStreets x = Checks.town("c1 1;c1 1;gff;");
            x.late(one, 1);
            due("between, one LATE", x.between(0, 1), NONE);
            due("windward, one LATE", x.windward(0, 1), NONE);
            x.loses(one, 1);
            due("between, one LOST", x.between(0, 1), NONE);
            due("windward, one LOST", x.windward(0, 1), NONE);
            x.loses(one, 0);
            due("between, both there", x.between(0, 1), 0);
            due("windward, both there", x.windward(0, 1), one == 1 ? 1 : 0);
            x.floods(1, 1);
            due("between, one OUT", x.between(0, 1), NONE);
            due("windward, one OUT", x.windward(1, 0), NONE);
            x.floods(0, 1);
            due("between, both OUT", x.between(0, 1), NONE);
            due("windward, both OUT", x.windward(0, 1), NONE);
            due("BAD is ahead of NONE", x.between(1, 1), BAD);
            due("BAD is ahead of NONE", x.windward(0, 0), BAD);
        }
    }

    // ---- BEST

    private void bestIs(WalkingStreets x, String row, int stand, int near, int last) {
        same("BEST", Checks.bestRow(x), row);
        due("how many stand", x.best(-1), stand);
        due("how many are NEAR", x.best(-2), near);
        due("the last CELL", x.best(-3), last);
        for (int i = row.length(); i < 7; i++) {
            due("best(" + i + ")", x.best(i), NONE);
        }
        due("best(7)", x.best(7), BAD);
        due("best(-4)", x.best(-4), BAD);
    }

    private void bestOfNone() {
        bestIs(new WalkingStreets(), "", 0, 0, NONE);
        bestIs(Checks.town("gfff;"), "", 0, 0, NONE);
        bestIs(Checks.town("c1 1;"), "0", 0, 0, NONE);
        bestIs(Checks.town("c1 1;gr;"), "0", 0, 0, NONE);
        bestIs(Checks.town("c1 1;gf;"), "0", 1, 0, 0);
        WalkingStreets x = Checks.town("c2 1;c2 1;c2 1;q0 1;gfrfrf;");
        bestIs(x, "012", 0, 0, NONE);
        x.loses(0, 1);
        bestIs(x, "12", 0, 0, NONE);
        x.loses(1, 1);
        bestIs(x, "2", 0, 0, NONE);
        x.loses(2, 1);
        bestIs(x, "", 0, 0, NONE);
    }

    private void bestOfSeven() {
        bestIs(Checks.town(SEVEN + "gfffffff;"), "0123456", 7, 0, 6);
        bestIs(Checks.town(SEVEN), "0123456", 0, 0, NONE);
        WalkingStreets x = Checks.town("c6 1;".repeat(7) + "g" + "f".repeat(40) + ";");
        bestIs(x, "0123456", 6, 0, 35);
        // 0 1, 1 2 and 5 6 must be parted.
        WalkingStreets y = Checks.town(SEVEN + "q0 1;q5 6;q1 2;d1;gfffffff;");
        bestIs(y, "0231546", 7, 0, 6);
        y.storm();
        bestIs(y, "0231546", 7, 0, 6);
    }

    // "by which most are not OUT"
    private void bestByMostStanding() {
        // Two that are NEAR stand ahead of one alone.
        bestIs(Checks.town("c1 1;c1 1;q0 1;d9;gff;"), "01", 2, 1, 1);
        // The wide one last: one more stands, though the last CELL is higher.
        bestIs(Checks.town("c4 1;c1 1;c1 1;gffff;"), "120", 2, 0, 1);
        bestIs(Checks.town("c4 1;c1 1;c1 1;gffffff;"), "012", 3, 0, 5);
        bestIs(Checks.town("c3 1;c1 1;gfrfff;"), "10", 2, 0, 4);
        // One OUT ends it, so the narrow ones are put ahead of it.
        bestIs(Checks.town("c6 1;c1 1;c6 1;c1 1;gfff;"), "1302", 2, 0, 1);
    }

    // "then fewest twos are NEAR"
    private void bestByFewestNear() {
        // The last CELL is higher, but nobody is NEAR; without the feud it would be 10.
        bestIs(Checks.town("c1 1;c2 1;q0 1;d2;gffrff;"), "01", 2, 0, 4);
        bestIs(Checks.town("c1 1;c2 1;d2;gffrff;"), "10", 2, 0, 3);
        bestIs(Checks.town("c1 1;c2 1;q0 1;d1;gfffrff;"), "01", 2, 1, 2);
        bestIs(Checks.town("c2 1;c2 1;c1 1;q0 1;d1;gfffff;"), "021", 3, 0, 4);
        bestIs(Checks.town("c1 1;c1 1;c1 1;q0 1;q0 2;q1 2;d1;gfff;"), "012", 3, 2, 2);
        bestIs(Checks.town("c1 1;c1 1;c1 1;q0 1;q0 2;q1 2;d9;gfff;"), "012", 3, 3, 2);
        bestIs(Checks.town("c1 1;c1 1;c1 1;q0 1;q0 2;d1;gfff;"), "012", 3, 1, 2);
        // Two by two parted by a wide one.
        bestIs(Checks.town("c1 1;c1 1;c5 1;q0 1;d5;gfffffff;"), "021", 3, 0, 6);
        bestIs(Checks.town("c1 1;c1 1;c5 1;q0 1;d6;gfffffff;"), "012", 3, 1, 6);
    }

    // "then the last CELL taken is lowest"
    private void bestByLowestLast() {
        bestIs(Checks.town("c2 1;c1 1;gfrfff;"), "10", 2, 0, 3);
        bestIs(Checks.town("c2 1;c1 1;gffrff;"), "01", 2, 0, 3);
        bestIs(Checks.town("c1 1;c2 1;gffrf;"), "10", 2, 0, 3);
        bestIs(Checks.town("c3 1;c2 1;c1 1;gffrfffrfff;"), "102", 3, 0, 7);
        // Fewer NEAR is ahead of a lower last CELL.
        bestIs(Checks.town("c1 1;c1 1;c2 1;q0 1;d2;gffrffff;"), "021", 3, 0, 5);
    }

    // "of several the first (by numbers)"
    private void bestOfSeveral() {
        WalkingStreets x = Checks.town("c1 1;c1 1;c1 1;gfff;");
        bestIs(x, "012", 3, 0, 2);
        x.storm();
        bestIs(x, "012", 3, 0, 2);
        x.floods(1, 1);
        bestIs(x, "012", 2, 0, 2);
        x.floods(0, 1);
        x.floods(2, 1);
        bestIs(x, "012", 0, 0, NONE);
        // Those behind the first one OUT are by numbers too.
        bestIs(Checks.town("c6 1;c1 1;c6 1;c6 1;c1 1;gff;"), "14023", 2, 0, 1);
    }

    // "of those that are not LOST (none LATE, as wide, on GROUND as it is NOW)"
    private void bestAsItIsNow() {
        WalkingStreets x = Checks.town("c1 1;c2 1;c1 1;gffrff;");
        bestIs(x, "021", 3, 0, 4);
        x.late(0, 1);
        x.late(1, 1);
        bestIs(x, "021", 3, 0, 4);
        x.loses(0, 1);
        bestIs(x, "12", 2, 0, 3);
        x.widens(1);
        bestIs(x, "21", 1, 0, 0);
        x.floods(2, 0);
        bestIs(x, "12", 2, 0, 3);
        x.floods(0, 1);
        bestIs(x, "12", 2, 0, 4);
    }

    /** What was found before must not be told again behind a change. */
    private void bestFollowsEachChange() {
        WalkingStreets x = Checks.town("c2 1;c1 1;gfrfff;");
        bestIs(x, "10", 2, 0, 3);
        x.keep(0);
        x.floods(1, 0);
        bestIs(x, "01", 2, 0, 2);
        x.undo();
        bestIs(x, "10", 2, 0, 3);
        x.loses(1, 1);
        bestIs(x, "0", 1, 0, 3);
        x.loses(1, 0);
        bestIs(x, "10", 2, 0, 3);
        x.widens(1);
        bestIs(x, "01", 1, 0, 3);
        x.back(0);
        bestIs(x, "10", 2, 0, 3);
        Checks.type(x, "c1 1;gff;");
        x.town();
        bestIs(x, "0", 1, 0, 0);
    }

    // ---- ROPES

    private void ropesAre(WalkingStreets x, int many, int first, int second, int third) {
        due("ropes(0)", x.ropes(0), many);
        due("ropes(1)", x.ropes(1), first);
        due("ropes(2)", x.ropes(2), second);
        due("ropes(3)", x.ropes(3), third);
        due("ropes(4)", x.ropes(4), BAD);
        due("ropes(-1)", x.ropes(-1), BAD);
    }

    // "the fewest rivers NOW (0 .. 3 CELLS)"; "NONE: not by 3"
    private void ropesAtMost() {
        ropesAre(Checks.town("c1 1;gf;"), 0, NONE, NONE, NONE);
        ropesAre(Checks.town("c1 1;gr;"), 1, 0, NONE, NONE);
        ropesAre(Checks.town("c2 1;grr;"), 2, 0, 1, NONE);
        ropesAre(Checks.town("c3 1;grrr;"), 3, 0, 1, 2);
        ropesAre(Checks.town("c4 1;grrrr;"), NONE, NONE, NONE, NONE);
        ropesAre(Checks.town("c4 1;grrrf;"), 3, 0, 1, 2);
        ropesAre(Checks.town("c4 1;grrr;"), NONE, NONE, NONE, NONE);
        ropesAre(Checks.town("c2 1;gf;"), NONE, NONE, NONE, NONE);
        ropesAre(Checks.town("c1 1;"), NONE, NONE, NONE, NONE);
        ropesAre(Checks.town("c1 1;c1 1;c1 1;grfr;"), 2, 0, 2, NONE);
        ropesAre(Checks.town("c1 1;c1 1;c1 1;c1 1;grrfr;"), 3, 0, 1, 3);
        ropesAre(Checks.town("c1 1;c1 1;c1 1;c1 1;grrrr;"), NONE, NONE, NONE, NONE);
        ropesAre(new WalkingStreets(), 0, NONE, NONE, NONE);
        ropesAre(Checks.town("grrr;"), 0, NONE, NONE, NONE);
        ropesAre(Checks.town("c3 1;g" + "r".repeat(40) + ";"), 3, 0, 1, 2);
        ropesAre(Checks.town("c4 1;g" + "r".repeat(40) + ";"), NONE, NONE, NONE, NONE);
        ropesAre(Checks.town("c6 1;c6 1;c6 1;c6 1;c6 1;c6 1;c4 1;g" + "f".repeat(40) + ";"), 0, NONE, NONE, NONE);
        ropesAre(Checks.town("c6 1;c6 1;c6 1;c6 1;c6 1;c6 1;c4 1;gr" + "f".repeat(38) + "r;"), 2, 0, 39, NONE);
    }

    // "of several ways the first by these"
    private void ropesOfSeveral() {
        ropesAre(Checks.town("c2 1;gfrfrf;"), 1, 1, NONE, NONE);
        ropesAre(Checks.town("c2 1;grfrrf;"), 1, 0, NONE, NONE);
        ropesAre(Checks.town("c3 1;gfrrfrf;"), 1, 4, NONE, NONE);
        ropesAre(Checks.town("c1 1;c1 1;gfrrr;"), 1, 1, NONE, NONE);
        ropesAre(Checks.town("c2 1;c2 1;gfrfrfrf;"), 2, 1, 3, NONE);
        ropesAre(Checks.town("c2 1;c2 1;grfrfrrf;"), 2, 0, 2, NONE);
        ropesAre(Checks.town("c4 1;g" + "r".repeat(36) + "frff;"), 1, 37, NONE, NONE);
    }

    // "rivers NOW"; "nobody in THE ORDER is OUT (LATE ones with their gaps)"
    private void ropesNow() {
        WalkingStreets x = Checks.town("c2 1;c1 1;gffrr;");
        ropesAre(x, 1, 2, NONE, NONE);
        x.late(0, 1);
        ropesAre(x, 1, 2, NONE, NONE);
        x.late(1, 1);
        ropesAre(x, 1, 2, NONE, NONE);
        x.floods(0, 1);
        ropesAre(x, 2, 0, 2, NONE);
        x.floods(2, 0);
        ropesAre(x, 1, 0, NONE, NONE);
        x.storm();
        ropesAre(x, 1, 0, NONE, NONE);
        x.widens(0);
        ropesAre(x, 2, 0, 3, NONE);
        x.widens(1);
        ropesAre(x, NONE, NONE, NONE, NONE);
        x.loses(0, 1);
        ropesAre(x, 0, NONE, NONE, NONE);
        same("nothing is bridged", x.ground(0) + " " + x.ground(3), "2 2");
    }

    // ---- DARK, SOON

    // "DARK at h (1 .. 60)"; "MILES by PACE hours (cut upwards)"
    private void darkByHour() {
        for (int miles : new int[] {1, 2, 8, 9, 10, 17, 18, 19, 59, 60}) {
            for (int pace = 1; pace <= 9; pace++) {
                WalkingStreets x = Checks.town("c1 " + pace + ";m" + miles + ";");
                int hours = 0;
                for (int gone = 0; gone < miles; gone += pace) {
                    hours++;
                }
                due("in by just so many hours", x.dark(hours), 1);
                due("and not by one fewer", x.dark(hours - 1), hours > 1 ? 0 : BAD);
                due("soon by so many", x.soon(hours, -1), 1);
                due("soon by one fewer", x.soon(hours - 1, -1), hours > 1 ? 0 : BAD);
                due("by 60", x.dark(60), 1);
                due("by 61", x.dark(61), BAD);
                due("by 0", x.dark(0), BAD);
            }
        }
        due("of none", new WalkingStreets().dark(1), 0);
        due("of none by 0", new WalkingStreets().dark(0), BAD);
    }

    // "all set off at once in THE ORDER, nobody is overtaken: .. no less than the one ahead"
    private void darkOfTheOrder() {
        // Hours: 1, 2, 3, 5, 9.
        WalkingStreets x = Checks.town("c1 9;c1 5;c1 3;c1 2;c1 1;");
        int[] wants = {1, 2, 3, 3, 4, 4, 4, 4, 5};
        for (int h = 1; h <= 9; h++) {
            due("dark(" + h + ")", x.dark(h), wants[h - 1]);
        }
        x.storm();
        for (int h = 1; h <= 9; h++) {
            due("the slowest ahead, by " + h, x.dark(h), h < 9 ? 0 : 5);
        }
        x.loses(4, 1);
        due("without that", x.dark(5), 4);
        due("by 4", x.dark(4), 0);
        x.loses(4, 0);
        due("behind all others, by 5", x.dark(5), 4);
        x.late(3, 1);
        due("a LATE one holds them up too", x.dark(4), 0);
        due("and is in with them", x.dark(5), 4);
    }

    private void soonIs(WalkingStreets x, int h, int many, String row) {
        due("soon(" + h + ", -1)", x.soon(h, -1), many);
        StringBuilder got = new StringBuilder();
        for (int i = 0; i < row.length(); i++) {
            got.append(x.soon(h, i));
        }
        same("SOON by " + h, got.toString(), row);
        for (int i = row.length(); i < 7; i++) {
            due("soon(" + h + ", " + i + ")", x.soon(h, i), NONE);
        }
        due("soon(" + h + ", 7)", x.soon(h, 7), BAD);
        due("soon(" + h + ", -2)", x.soon(h, -2), BAD);
    }

    // "the order by which most are, for h, of several the first"
    private void soonOfSeveral() {
        soonIs(new WalkingStreets(), 1, 0, "");
        soonIs(Checks.town("c1 1;"), 9, 1, "0");
        soonIs(Checks.town("c1 1;"), 8, 0, "0");
        // Hours: 9, 1, 5, 2.
        WalkingStreets x = Checks.town("c1 1;c1 9;c1 2;c1 5;");
        soonIs(x, 1, 1, "1023");
        soonIs(x, 2, 2, "1302");
        soonIs(x, 4, 2, "1302");
        soonIs(x, 5, 3, "1230");
        soonIs(x, 8, 3, "1230");
        soonIs(x, 9, 4, "0123");
        soonIs(x, 60, 4, "0123");
        x.storm();
        x.late(1, 1);
        soonIs(x, 1, 1, "1023");
        x.loses(1, 1);
        soonIs(x, 1, 0, "023");
        soonIs(x, 2, 1, "302");
        due("soon(0, 0)", x.soon(0, 0), BAD);
        due("soon(61, 0)", x.soon(61, 0), BAD);
        due("soon(0, -1)", x.soon(0, -1), BAD);
        due("soon(61, -1)", x.soon(61, -1), BAD);
    }

    private void soonOfSeven() {
        WalkingStreets x = Checks.town("c1 1;c1 9;c1 1;c1 9;c1 1;c1 9;c1 1;");
        soonIs(x, 1, 3, "1350246");
        soonIs(x, 9, 7, "0123456");
        x.loses(6, 1);
        soonIs(x, 1, 3, "135024");
        x.loses(0, 1);
        soonIs(x, 1, 3, "13524");
        soonIs(x, 9, 5, "12345");
    }

    // ---- SEEN, WHO

    // "SEEN (6 at most)"
    private void seenAtMost() {
        WalkingStreets x = Checks.town("c1 1;c1 1;c1 1;");
        for (int i = 1; i <= 6; i++) {
            due("saw, the " + i + "th", x.saw(0, 1), i);
            due("SEEN", x.count(4), i);
        }
        due("saw, the 7th", x.saw(1, 2), FULL);
        due("of alike ones", x.saw(1, 1), BAD);
        due("of one that is not there", x.saw(1, 3), BAD);
        due("the 7th is not seen", x.who(), 4 | 128);
        due("forget six", x.forget(), 6);
        due("forget none", x.forget(), 0);
        due("saw then", x.saw(1, 2), 1);
        due("only that is seen", x.who(), 1 | 4 | 128);
        due("forget one", x.forget(), 1);
    }

    // "if just that one let its PIN out NOW, all that was SEEN is so (128: if nobody did)"
    private void whoOfEach() {
        WalkingStreets x = Checks.town(SEVEN);
        due("nothing SEEN", x.who(), 255);
        x.saw(0, 1);
        due("one two of them", x.who(), 255 - 1 - 2);
        x.saw(5, 6);
        due("with the last two", x.who(), 255 - 1 - 2 - 32);
        x.saw(2, 3);
        due("three twos", x.who(), 255 - 1 - 2 - 32 - 4 - 8);
        x.saw(3, 4);
        due("four", x.who(), 255 - 1 - 2 - 32 - 4 - 8 - 16);
        x.saw(6, 0);
        due("round about: nobody", x.who(), 0);
        for (int c = 0; c < 6; c++) {
            WalkingStreets y = Checks.town(SEVEN);
            y.saw(6, c);
            due(c + " behind the last one", y.who(), 1 << c);
            if (c > 0) {
                y.saw(c - 1, c + 1);
                due("and its neighbours side by side", y.who(), 1 << c);
            }
            y.pin(c);
            int not = 64 | (c > 0 ? 1 << c - 1 | 1 << c + 1 : 0);
            due("once it has", y.who(), 255 & ~not);
        }
    }

    private void whoOfTheLastOne() {
        WalkingStreets x = Checks.town("c1 1;c1 1;");
        x.saw(0, 1);
        due("the last one is behind all others already", x.who(), 2 | 128);
        x.forget();
        x.saw(1, 0);
        due("the first one did", x.who(), 1);
        x.saw(0, 1);
        due("not both", x.who(), 0);
        WalkingStreets one = Checks.town("c1 1;");
        due("the only one", one.who(), 1 | 128);
        one.loses(0, 1);
        due("none", one.who(), 128);
        WalkingStreets y = Checks.town("c1 1;c1 1;c1 1;");
        y.saw(0, 2);
        y.loses(1, 1);
        due("side by side without the LOST one", y.who(), 4 | 128);
        y.loses(2, 1);
        due("with a LOST one it isn't so", y.who(), 0);
        y.loses(2, 0);
        y.late(0, 1);
        due("a LATE one stands in THE ORDER", y.who(), 4 | 128);
    }

    // ---- ODDS

    private void oddsAre(WalkingStreets x, int c, int k, int by, int upper, int lower) {
        String call = "odds(" + c + ", " + k + ", " + by + ", ";
        due(call + "0)", x.odds(c, k, by, 0), upper);
        due(call + "1)", x.odds(c, k, by, 1), lower);
    }

    // "ODDS by x (0 .. 10)"
    private void oddsByTenths() {
        WalkingStreets x = Checks.town("c1 1;gf;");
        for (int by = 0; by <= 10; by++) {
            oddsAre(x, 0, 0, by, 1, 1);
        }
        // Cart 1 is first if 0 is late and 1 is not.
        WalkingStreets y = Checks.town("c1 1;c1 1;gff;");
        int[] upper = {0, 9, 4, 21, 6, 1, 6, 21, 4, 9, 0};
        int[] lower = {1, 100, 25, 100, 25, 4, 25, 100, 25, 100, 1};
        for (int by = 0; by <= 10; by++) {
            oddsAre(y, 1, 0, by, upper[by], lower[by]);
            oddsAre(y, 0, 0, by, lower[by] - upper[by], lower[by]);
            oddsAre(y, 0, 1, by, upper[by], lower[by]);
        }
        due("by 11", y.odds(0, 0, 11, 0), BAD);
        due("by -1", y.odds(0, 0, -1, 0), BAD);
    }

    // "upper (what = 0), lower number (1), in least terms"
    private void oddsInLeastTerms() {
        WalkingStreets x = Checks.town(SEVEN + "gfffffff;");
        oddsAre(x, 6, 6, 0, 1, 1);
        oddsAre(x, 0, 6, 0, 0, 1);
        oddsAre(x, 6, 6, 10, 1, 1);
        // All others late and it alone not: 9 by 10 to the power of 7.
        oddsAre(x, 6, 0, 1, 9, 10000000);
        oddsAre(x, 6, 0, 9, 531441, 10000000);
        oddsAre(x, 6, 0, 5, 1, 128);
        oddsAre(x, 6, 6, 9, 9000001, 10000000);
        oddsAre(x, 6, 0, 2, 4, 78125);
        int sum = 0;
        for (int k = 0; k < 7; k++) {
            sum += x.odds(3, k, 5, 0) * (128 / x.odds(3, k, 5, 1));
        }
        due("it stands somewhere", sum, 128);
        due("odds, what 2", x.odds(0, 0, 5, 2), BAD);
        due("odds, what -1", x.odds(0, 0, 5, -1), BAD);
    }

    // "that a CART takes a CELL, its first one"
    private void oddsWithoutACell() {
        WalkingStreets x = Checks.town("c2 1;c1 1;gffrf;");
        oddsAre(x, 0, 0, 0, 1, 1);
        oddsAre(x, 0, 1, 0, 0, 1);
        oddsAre(x, 0, 2, 5, 0, 1);
        oddsAre(x, 1, 3, 5, 3, 4);
        oddsAre(x, 1, 0, 5, 1, 4);
        // The wide one is OUT behind the narrow one.
        oddsAre(x, 0, 0, 5, 3, 4);
        due("the CELL behind the last", x.odds(0, 4, 5, 0), BAD);
        due("the CELL ahead of the first", x.odds(0, -1, 5, 0), BAD);
        x.loses(1, 1);
        oddsAre(x, 0, 0, 5, 1, 1);
        oddsAre(x, 1, 0, 5, 0, 1);
        due("one that is not there", x.odds(2, 0, 5, 0), BAD);
        WalkingStreets y = Checks.town("c1 1;g" + "r".repeat(39) + "f;");
        oddsAre(y, 0, 39, 5, 1, 1);
        oddsAre(y, 0, 38, 5, 0, 1);
        due("CELL 40", y.odds(0, 40, 5, 0), BAD);
    }

    // "each of THE ORDER is LATE by x in 10, for itself (whatever it is NOW)"
    private void oddsWhateverItIsNow() {
        WalkingStreets x = Checks.town("c1 1;c1 1;c1 1;gfff;");
        oddsAre(x, 2, 0, 5, 1, 8);
        x.late(0, 1);
        x.late(1, 1);
        x.late(2, 1);
        oddsAre(x, 2, 0, 5, 1, 8);
        oddsAre(x, 2, 0, 0, 0, 1);
        x.storm();
        oddsAre(x, 2, 0, 0, 1, 1);
        oddsAre(x, 2, 0, 5, 5, 8);
        x.loses(0, 1);
        oddsAre(x, 2, 0, 5, 3, 4);
        x.widens(2);
        x.floods(0, 1);
        oddsAre(x, 2, 1, 5, 3, 4);
        due("nothing is changed", x.now(7), 6);
        same("THE ORDER", Checks.row(x), "21");
    }

    // ---- KINDS

    private void marksAre(WalkingStreets x, int c, int... wants) {
        for (int kind = 0; kind < wants.length; kind++) {
            due("mark(" + kind + ", " + c + ")", x.mark(kind, c), wants[kind]);
        }
        due("mark(6, " + c + ")", x.mark(6, c), NO);
        due("mark(-1, " + c + ")", x.mark(-1, c), NO);
    }

    // "MARK of a CART as if of a KIND"
    private void marks() {
        WalkingStreets x = Checks.town("c6 9;c1 1;c3 4;q0 2;q1 2;g" + "f".repeat(6) + "rfrfff;");
        marksAre(x, 0, 6, 15, 6, 30, 7, 8);
        marksAre(x, 1, 1, 2, -6, 4, -5, 3);
        marksAre(x, 2, 3, 7, -6, 14, -4, 5);
        due("mark of one that is not there", x.mark(0, 3), NO);
        due("mark of one ahead of the first", x.mark(0, -1), NO);
        due("NO", NO, -1000000);
    }

    // "less its CELL, 0 if it has none"
    private void marksWithoutACell() {
        WalkingStreets x = Checks.town("c2 3;c1 5;c4 1;q0 1;gfrfff;");
        marksAre(x, 0, 2, 5, 0, 10, 1, 2);
        marksAre(x, 1, 1, 6, -3, 12, -2, 1);
        marksAre(x, 2, 4, 5, 4, 10, 4, 4);
        x.late(1, 1);
        marksAre(x, 1, 1, 6, 1, 12, 2, 1);
        x.loses(1, 1);
        marksAre(x, 1, 1, 6, 1, 12, 2, 1);
        x.loses(1, 0);
        x.storm();
        due("at CELL 0", x.mark(2, 1), 1);
    }

    private void marksOfMost() {
        StringBuilder feuds = new StringBuilder();
        for (int c = 0; c < 6; c++) {
            feuds.append("q6 ").append(c).append(';');
        }
        WalkingStreets x = Checks.town("c1 1;c1 1;c1 1;c1 1;c1 1;c1 1;c6 9;" + feuds + "g" + "rf".repeat(6)
            + "r".repeat(22) + "ffffff;");
        marksAre(x, 6, 6, 15, 6 - 34, 30, 6 - 34 + 6, 6 + 6);
        marksAre(x, 0, 1, 2, 0, 4, 1, 1 + 6);
        WalkingStreets y = Checks.town("c1 1;gf;");
        marksAre(y, 0, 1, 2, 1, 4, 1, 1);
    }

    // "numbers in brackets come to THE TRACE as often as mark() asks that body"
    private void traceOfEach() {
        long[] wants = {1, 11, 101, 1011, 10101, 100001};
        for (int kind = 0; kind < 6; kind++) {
            WalkingStreets x = Checks.town("c1 1;c1 1;gff;");
            due("at first", x.trace(), 0);
            x.mark(kind, 1);
            due("once", x.trace(), wants[kind]);
            x.mark(kind, 0);
            due("twice", x.trace(), 2 * wants[kind]);
            x.mark(kind, 2);
            x.mark(kind, -1);
            x.mark(6, 0);
            x.mark(-1, 0);
            due("not by those refused", x.trace(), 2 * wants[kind]);
            x.keep(0);
            x.mark(kind, 0);
            x.back(0);
            x.nine();
            x.undo();
            x.forget();
            x.clear();
            due("it is kept by no IMAGE, undone by no undo", x.trace(), 3 * wants[kind]);
            x.town();
            due("nor is it by a text read anew", x.trace(), 3 * wants[kind]);
        }
    }

    // ---- IMAGES

    // "IMAGES 0, 1"; "BAD; STATE: none was kept."
    private void imagesTwo() {
        WalkingStreets x = Checks.town("c1 1;c1 1;c1 1;");
        for (int image = 0; image < 2; image++) {
            due("back of none", x.back(image), STATE);
        }
        for (int image : new int[] {-1, 2}) {
            due("back(" + image + ")", x.back(image), BAD);
            due("keep(" + image + ")", x.keep(image), BAD);
        }
        due("keep(1)", x.keep(1), 3);
        due("back(0), the other one", x.back(0), STATE);
        x.loses(0, 1);
        due("keep(0)", x.keep(0), 2);
        x.loses(1, 1);
        due("back(1)", x.back(1), 3);
        due("back(0)", x.back(0), 2);
        due("back(0) again", x.back(0), 2);
        x.loses(2, 1);
        due("keep(1) over it", x.keep(1), 1);
        x.loses(1, 1);
        due("back(1), what was kept last", x.back(1), 1);
        same("THE ORDER of it", Checks.row(x), "1");
        due("back(0), as ever", x.back(0), 2);
        x.loses(1, 1);
        x.loses(2, 1);
        due("keep of none in THE ORDER", x.keep(0), 0);
        due("back to that", x.back(0), 0);
    }

    // "keep NOW (THE ORDER, who is LATE, LOST, AXLES, floods, what may be UNDONE); nothing else"
    private void imagesKeepTheNight() {
        WalkingStreets x = Checks.town("c1 1;c2 1;c6 1;c1 1;g" + "fhr".repeat(13) + "f;");
        x.floods(38, 0);
        x.floods(39, 1);
        x.floods(1, 1);
        x.loses(3, 1);
        x.late(1, 1);
        x.widens(0);
        x.storm();
        String cells = Checks.cells(x);
        due("keep", x.keep(1), 3);
        x.storm();
        x.widens(0);
        x.widens(1);
        x.late(1, 0);
        x.late(2, 1);
        x.loses(3, 0);
        x.loses(0, 1);
        x.floods(38, 1);
        x.floods(39, 0);
        x.floods(0, 1);
        x.saw(0, 1);
        x.type('c');
        x.mark(0, 0);
        due("back", x.back(1), 3);
        same("THE ORDER", Checks.row(x), "210");
        due("who is LATE", x.now(7), 2);
        due("who is LOST", x.cart(3, 3) * 8 + x.cart(0, 3), 8);
        due("AXLES", x.cart(0, 0) * 100 + x.cart(1, 0) * 10 + x.cart(2, 0), 226);
        due("a dry one", x.ground(38), 0);
        due("a flooded one", x.ground(39), 2);
        due("a flooded hill", x.ground(1), 2);
        due("one flooded since", x.ground(0), 0);
        due("what may be UNDONE", x.count(5), 7);
        same("where each stands", Checks.cells(x), cells);
        due("not what was SEEN", x.count(4), 1);
        due("not THE TEXT", x.count(6), 1);
        due("not THE TRACE", x.trace(), 1);
        x.floods(39, 0);
        due("what is done to it since is not in the IMAGE", x.back(1), 3);
        due("that CELL", x.ground(39), 2);
    }

    private void imagesKeepThePast() {
        for (int done = 0; done <= 12; done++) {
            WalkingStreets x = Checks.town("c1 1;c1 1;c1 1;c1 1;c1 1;");
            String[] rows = new String[MOST];
            for (int i = 0; i < done; i++) {
                rows[i] = Checks.row(x);
                x.pin(x.order(i % 4));
            }
            x.keep(0);
            String kept = Checks.row(x);
            for (int i = 0; i < 11; i++) {
                x.widens(i % 5);
            }
            due("back", x.back(0), 5);
            same("THE ORDER", Checks.row(x), kept);
            due("an AXLE", x.cart(0, 0), 1);
            int known = Math.min(done, 10);
            due("what may be UNDONE of " + done, x.count(5), known);
            for (int i = 0; i < known; i++) {
                due("undo", x.undo(), known - 1 - i);
                same("THE ORDER", Checks.row(x), rows[done - 1 - i]);
            }
            due("undo of none", x.undo(), STATE);
            due("back again, with all that may be UNDONE", x.back(0), 5);
            due("so many", x.count(5), known);
        }
    }

    // "IMAGES are gone"
    private void imagesAreGone() {
        WalkingStreets x = Checks.town("c1 1;c1 1;");
        x.keep(0);
        x.keep(1);
        Checks.type(x, "c");
        due("a text with a fault", x.town(), -11);
        due("IMAGE 0 is there", x.back(0), 2);
        due("IMAGE 1 is there", x.back(1), 2);
        Checks.type(x, "1 1;");
        due("a text read", x.town(), 1);
        due("IMAGE 0 is gone", x.back(0), STATE);
        due("IMAGE 1 is gone", x.back(1), STATE);
        due("keep anew", x.keep(0), 1);
        due("only that", x.back(1), STATE);
        due("back anew", x.back(0), 1);
    }

    // "0 CARTS, 1 CELLS, 2 APART, 3 MILES, 4 SEEN, 5 how many may be UNDONE, 6 bytes of THE TEXT. BAD."
    private void counts() {
        WalkingStreets x = Checks.town(SEVEN + "d9;m60;g" + "h".repeat(40) + ";");
        for (int i = 0; i < 6; i++) {
            x.saw(i, i + 1);
        }
        for (int i = 0; i < 10; i++) {
            x.storm();
        }
        Checks.type(x, " ".repeat(180));
        int[] most = {7, 40, 9, 60, 6, 10, 180};
        for (int what = 0; what < most.length; what++) {
            due("count(" + what + ") at most", x.count(what), most[what]);
        }
        due("count(7)", x.count(7), BAD);
        due("count(-1)", x.count(-1), BAD);
        WalkingStreets y = Checks.town("c1 1;d1;m1;gf;");
        int[] least = {1, 1, 1, 1, 0, 0, 0};
        for (int what = 0; what < least.length; what++) {
            due("count(" + what + ") at least", y.count(what), least[what]);
        }
    }

    private AskEdgeTests() {
    }
}
