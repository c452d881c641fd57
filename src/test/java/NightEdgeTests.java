/** The boundary cases of THE ORDER and what is done ('Terms' 2, promises 5 to 17): each method names its words. */
final class NightEdgeTests {
    private static final int BAD = WalkingStreets.BAD;
    private static final int STATE = WalkingStreets.STATE;
    private static final int NONE = WalkingStreets.NONE;
    private static final String SEVEN = "c1 1;c1 1;c1 1;c1 1;c1 1;c1 1;c1 1;";

    private final Checks checks = new Checks();

    public static void main(String[] args) {
        NightEdgeTests tests = new NightEdgeTests();
        tests.setUpAtTheEnds();
        tests.setUpBetweenRivers();
        tests.setUpBehind();
        tests.out();
        tests.outWithoutGround();
        tests.outOfTheSeventh();
        tests.lateOnesAndGaps();
        tests.lateRefused();
        tests.nine();
        tests.pin();
        tests.pinOfSeven();
        tests.storm();
        tests.widens();
        tests.floodAndDry();
        tests.floodOfEachCell();
        tests.lostAndFound();
        tests.allLost();
        tests.undoneTen();
        tests.whatMayBeUndone();
        tests.undoOfALostCart();
        tests.cellNone();
        tests.breaks();
        tests.near();
        tests.nearOfThoseWithoutCells();
        tests.onHills();
        tests.lastCell();
        tests.least();
        tests.orderAndPlace();
        tests.takesEach();
        tests.checks.end();
    }

    private void due(String call, long got, long want) {
        checks.due(call, got, want);
    }

    private void same(String what, String got, String want) {
        checks.same(what, got, want);
    }

    private void cellsAre(String text, String want) {
        same("cells of '" + text + "'", Checks.cells(Checks.town(text)), want);
    }

    // "from the first CELL on behind the one ahead at which there are so many", "none a river"
    private void setUpAtTheEnds() {
        for (int axle = 1; axle <= 6; axle++) {
            String cart = "c" + axle + " 1;";
            String room = "f".repeat(axle);
            cellsAre(cart + "g" + room + ";", "0");
            cellsAre(cart + "gr" + room + ";", "1");
            cellsAre(cart + "g" + room + "r;", "0");
            cellsAre(cart + "g" + "h".repeat(axle) + ";", "0");
            cellsAre(cart + "g" + "r".repeat(40 - axle) + room + ";", String.valueOf(40 - axle));
            cellsAre(cart + "g" + "r".repeat(41 - axle) + room.substring(1) + ";", "-");
            if (axle > 1) {
                cellsAre(cart + "g" + room.substring(1) + ";", "-");
                cellsAre(cart + "g" + room.substring(1) + "r" + room.substring(1) + ";", "-");
            }
        }
        cellsAre("c1 1;gr;", "-");
        cellsAre("c1 1;g" + "r".repeat(40) + ";", "-");
        cellsAre("c6 1;c6 1;c6 1;c6 1;c6 1;c6 1;c4 1;g" + "f".repeat(40) + ";", "0 6 12 18 24 30 36");
        cellsAre("c6 1;c6 1;c6 1;c6 1;c6 1;c6 1;c5 1;g" + "f".repeat(40) + ";", "0 6 12 18 24 30 -");
    }

    private void setUpBetweenRivers() {
        cellsAre("c3 1;gffrffrfffr;", "6");
        cellsAre("c2 1;gfrffrfff;", "2");
        cellsAre("c2 1;c1 1;gfrff;", "2 -");
        cellsAre("c1 1;c2 1;gfrff;", "0 2");
        cellsAre("c1 1;c2 1;gffrff;", "0 3");
        cellsAre("c1 1;c2 1;gfffrff;", "0 1");
        cellsAre("c2 1;c2 1;gfrfhhfr;", "2 4");
    }

    private void setUpBehind() {
        // A room that is too narrow is not gone back to, though the next one would fit in.
        cellsAre("c2 1;c1 1;gfrfff;", "2 4");
        WalkingStreets x = Checks.town("c2 1;c1 1;gfrfff;");
        x.storm();
        same("the narrow one ahead", Checks.cells(x), "2 0");
        due("nobody takes what is left", Checks.town("c2 1;c1 1;gfrfff;").takes(0), NONE);
    }

    // "If there are none, it is OUT (it stands nowhere and has no gap, nor does any behind it)."
    private void out() {
        WalkingStreets x = Checks.town("c1 1;c3 1;c1 1;q0 2;d9;gfffh;");
        due("all stand by just so much", x.now(1), 1);
        x.widens(0);
        same("one cell too few", Checks.cells(x), "0 - -");
        due("OUT, those behind too", x.now(1), 2);
        due("NEAR", x.now(3), 0);
        due("BREAKS", x.now(2), 0);
        due("the last CELL", x.now(5), 1);
        due("its place is kept", x.cart(2, 6), 2);
        due("it is not LOST", x.cart(2, 3), 0);
        due("nor LATE", x.cart(2, 2), 0);
        due("nobody on a hill", x.now(4), 0);
        due("a LATE one that is OUT has no gap", x.late(1, 1), NONE);
        same("so all behind it is OUT", Checks.cells(x), "0 - -");
        due("one may be OUT and LATE", x.now(1), 2);
        due("LATE", x.now(7), 2);
        due("behind it, all by NINE", x.nine(), 1);
        same("one of them stands", Checks.cells(x), "0 - 2");
        due("OUT then", x.now(1), 1);
        WalkingStreets y = Checks.town("c6 1;c1 1;c1 1;gfffff;");
        due("the first one OUT, so all", y.now(1), 3);
        due("no last CELL", y.now(5), NONE);
        due("nobody takes it", y.takes(0), NONE);
        due("pin lets the others stand", y.pin(0), NONE);
        due("OUT then", y.now(1), 1);
    }

    private void outWithoutGround() {
        WalkingStreets x = Checks.town(SEVEN);
        due("all OUT", x.now(1), 7);
        due("none BREAKS", x.now(2), 0);
        due("no last CELL", x.now(5), NONE);
        due("in THE ORDER", x.now(0), 7);
        due("late", x.late(6, 1), NONE);
        due("there", x.late(6, 0), NONE);
        due("pin", x.pin(0), NONE);
        due("no CELL to flood", x.floods(0, 1), BAD);
        due("between", x.between(0, 1), NONE);
        due("windward", x.windward(0, 1), NONE);
    }

    /** What was known of the last cart must not stay when it stands no more. */
    private void outOfTheSeventh() {
        WalkingStreets x = Checks.town(SEVEN + "gfffffff;");
        due("the seventh stands", x.cart(6, 5), 6);
        x.loses(6, 1);
        due("lost", x.cart(6, 5), NONE);
        due("nobody takes its CELL", x.takes(6), NONE);
        due("nothing is between", x.between(6, 0), NONE);
        x.loses(6, 0);
        due("found", x.cart(6, 5), 6);
        x.floods(6, 1);
        due("OUT", x.cart(6, 5), NONE);
        due("one is OUT", x.now(1), 1);
        due("odds of that", x.odds(6, 6, 0, 0), 0);
    }

    // "a LATE one keeps such a gap, but takes no CELL of it"
    private void lateOnesAndGaps() {
        WalkingStreets x = Checks.town("c2 1;c2 1;c1 1;q0 2;q0 1;d9;gffhffh;");
        due("late(1, 1)", x.late(1, 1), NONE);
        same("the gap is kept", Checks.cells(x), "0 - 4");
        due("its first CELL", x.takes(2), NONE);
        due("its last CELL", x.takes(3), NONE);
        due("behind it", x.takes(4), 2);
        due("between goes over it", x.between(0, 2), 2);
        due("NEAR without it", x.now(3), 1);
        due("ON HILLS without it", x.now(4), 0);
        due("a gap breaks nothing", x.now(2), 0);
        x.floods(2, 1);
        same("a gap is set up as all are", Checks.cells(x), "0 - 5");
        due("it breaks by a river, those behind it don't", x.now(2), 2);
        due("there again", x.late(1, 0), 3);
        x.floods(2, 0);
        x.late(2, 1);
        due("the last one's gap takes no last CELL", x.now(5), 3);
        x.late(0, 1);
        due("the first one's gap", x.cart(1, 5), 2);
        x.late(1, 1);
        due("all LATE: no last CELL", x.now(5), NONE);
        due("none is OUT", x.now(1), 0);
        due("nobody is NEAR", x.now(3), 0);
        WalkingStreets y = Checks.town("c1 1;c1 1;gf;");
        y.late(0, 1);
        due("a gap leaves no room", y.cart(1, 5), NONE);
        due("that one is OUT", y.now(1), 1);
    }

    // "STATE: it is so, it is LOST."
    private void lateRefused() {
        WalkingStreets x = Checks.town("c1 1;gf;");
        due("there already", x.late(0, 0), STATE);
        due("late", x.late(0, 1), NONE);
        due("late already", x.late(0, 1), STATE);
        due("there", x.late(0, 0), 0);
        x.late(0, 1);
        x.loses(0, 1);
        due("lost and late no more", x.cart(0, 2), 0);
        due("late of a lost one", x.late(0, 1), STATE);
        due("there of a lost one", x.late(0, 0), STATE);
        x.loses(0, 0);
        due("found, and not late", x.cart(0, 2), 0);
        due("late again", x.late(0, 1), NONE);
        due("four were done and found", x.count(5), 6);
        due("BAD is ahead of STATE", x.late(0, 2), BAD);
    }

    // "all that are LATE go behind all others, as they are in THE ORDER, and are there then"; "how many went"
    private void nine() {
        due("nine of none", new WalkingStreets().nine(), 0);
        WalkingStreets x = Checks.town(SEVEN + "gfffffff;");
        due("nobody LATE", x.nine(), 0);
        x.late(6, 1);
        due("the last one LATE", x.nine(), 1);
        same("it is behind all others already", Checks.row(x), "0123456");
        x.late(0, 1);
        due("the first one LATE", x.nine(), 1);
        same("it is behind all", Checks.row(x), "1234560");
        x.late(0, 1);
        x.late(5, 1);
        x.late(1, 1);
        x.late(3, 1);
        due("four LATE", x.nine(), 4);
        same("as they were in THE ORDER", Checks.row(x), "2461350");
        due("nobody LATE then", x.now(7), 0);
        due("each of them has a CELL", x.cart(0, 5), 6);
        for (int c = 0; c < 7; c++) {
            x.late(c, 1);
        }
        due("all LATE", x.now(7), 127);
        due("all went", x.nine(), 7);
        same("behind none", Checks.row(x), "2461350");
        x.late(4, 1);
        x.loses(4, 1);
        due("a LOST one is not LATE, so doesn't go", x.nine(), 0);
        due("and is not found by it", x.now(0), 6);
    }

    // "a CART goes behind all others"; "STATE: it is LOST, it is the last one."
    private void pin() {
        due("pin of the only one", Checks.town("c1 1;gf;").pin(0), STATE);
        WalkingStreets x = Checks.town("c1 1;c2 1;gfff;");
        due("pin of the last of two", x.pin(1), STATE);
        due("pin of the first of two", x.pin(0), 2);
        same("two turned", Checks.row(x), "10");
        due("pin of the last now", x.pin(0), STATE);
        x.late(1, 1);
        due("pin of a LATE one", x.pin(1), NONE);
        due("it stays LATE", x.cart(1, 2), 1);
        x.loses(1, 1);
        due("pin of a LOST one", x.pin(1), STATE);
        due("pin of the only one left", x.pin(0), STATE);
    }

    private void pinOfSeven() {
        for (int c = 0; c < 6; c++) {
            WalkingStreets x = Checks.town(SEVEN + "gfffffff;");
            due("pin(" + c + ") of seven", x.pin(c), 6);
            String row = "0123456".replace(String.valueOf(c), "") + c;
            same("THE ORDER behind pin(" + c + ")", Checks.row(x), row);
        }
        due("pin of the seventh", Checks.town(SEVEN).pin(6), STATE);
    }

    // "THE ORDER is turned about"; "who is first then (NONE)"
    private void storm() {
        for (int carts = 0; carts <= 7; carts++) {
            WalkingStreets x = Checks.town("c1 1;".repeat(carts));
            due("storm of " + carts, x.storm(), carts > 0 ? carts - 1 : NONE);
            same("turned about", Checks.row(x), "6543210".substring(7 - carts));
            due("storm again", x.storm(), carts > 0 ? 0 : NONE);
            due("each may be undone", x.count(5), 2);
        }
        WalkingStreets x = Checks.town("c1 1;c2 1;gffff;");
        x.late(0, 1);
        x.storm();
        due("LATE ones are turned too, and stay so", x.now(7), 1);
        same("cells", Checks.cells(x), "- 0");
        x.loses(0, 1);
        due("without the LOST one", x.storm(), 1);
        x.loses(1, 1);
        due("none left", x.storm(), NONE);
    }

    // "an AXLE is 1 more (6 at most)"; "STATE: it is 6"
    private void widens() {
        for (int axle = 1; axle <= 6; axle++) {
            WalkingStreets x = Checks.town("c" + axle + " 1;gffffff;");
            for (int then = axle + 1; then <= 6; then++) {
                due("widens to " + then, x.widens(0), then);
                due("AXLE", x.cart(0, 0), then);
                due("LEAST", x.now(6), then);
            }
            due("widens at 6 from " + axle, x.widens(0), STATE);
            due("AXLE at 6", x.cart(0, 0), 6);
            due("it takes all six", x.takes(5), 0);
            due("what may be undone", x.count(5), 6 - axle);
        }
        WalkingStreets x = Checks.town("c5 1;c1 1;gffffff;");
        x.loses(0, 1);
        due("a LOST one widens", x.widens(0), 6);
        due("a LOST one at 6", x.widens(0), STATE);
        x.loses(0, 0);
        due("it is as wide when FOUND", x.cart(0, 0), 6);
        same("cells", Checks.cells(x), "- 0");
        x.late(1, 1);
        due("a LATE one widens", x.widens(1), 2);
        due("the undone one", x.undo(), 4);
        due("is as wide as ahead of it", x.cart(1, 0), 1);
    }

    // "a CELL becomes a river, or what it was told to be again (dry: flat, if it was told a river)"
    private void floodAndDry() {
        WalkingStreets x = Checks.town("c1 1;gfhr;");
        int[] toldAs = {0, 1, 2};
        int[] dryAs = {0, 1, 0};
        for (int k = 0; k < 3; k++) {
            due("as told " + k, x.ground(k), toldAs[k]);
            due("flood " + k, x.floods(k, 1), k < 2 ? 2 : STATE);
            due("a river " + k, x.ground(k), 2);
            due("flood of a river " + k, x.floods(k, 1), STATE);
            due("dry " + k, x.floods(k, 0), dryAs[k]);
            due("as it is then " + k, x.ground(k), dryAs[k]);
            due("dry of what is none " + k, x.floods(k, 0), STATE);
            due("flood again " + k, x.floods(k, 1), 2);
            due("dry again " + k, x.floods(k, 0), dryAs[k]);
        }
        due("dry of a hill", Checks.town("gh;").floods(0, 0), STATE);
        due("dry of a flat one", Checks.town("gf;").floods(0, 0), STATE);
        due("floods(3, 1)", x.floods(3, 1), BAD);
        due("floods(3, 0)", x.floods(3, 0), BAD);
        due("floods(-1, 0)", x.floods(-1, 0), BAD);
    }

    private void floodOfEachCell() {
        for (int k = 0; k < 40; k++) {
            WalkingStreets x = Checks.town("c1 1;g" + "h".repeat(40) + ";");
            due("flood of " + k, x.floods(k, 1), 2);
            for (int other = 0; other < 40; other++) {
                due("ground(" + other + ") by a flood of " + k, x.ground(other), other == k ? 2 : 1);
            }
            due("where it stands", x.cart(0, 5), k == 0 ? 1 : 0);
            WalkingStreets y = Checks.town("c1 1;g" + "r".repeat(40) + ";");
            due("dry of " + k, y.floods(k, 0), 0);
            due("the only room", y.cart(0, 5), k);
            due("ropes without it", y.ropes(0), 0);
        }
    }

    // "a CART is out of THE ORDER (and LATE no more); FOUND: it is behind all others again"
    private void lostAndFound() {
        for (int c = 0; c < 7; c++) {
            WalkingStreets x = Checks.town(SEVEN + "gfffffff;");
            x.late(c, 1);
            due("found of one that is there", x.loses(c, 0), STATE);
            due("lost", x.loses(c, 1), 6);
            same("without " + c, Checks.row(x), "0123456".replace(String.valueOf(c), ""));
            due("LOST", x.cart(c, 3), 1);
            due("LATE no more", x.now(7), 0);
            due("no gap is left", x.now(5), 5);
            due("lost already", x.loses(c, 1), STATE);
            due("found", x.loses(c, 0), 7);
            same("behind all others", Checks.row(x), "0123456".replace(String.valueOf(c), "") + c);
            due("not LATE", x.cart(c, 2), 0);
            due("found already", x.loses(c, 0), STATE);
        }
    }

    private void allLost() {
        WalkingStreets x = Checks.town("c2 1;c1 9;q0 1;gfff;");
        due("lost, one left", x.loses(0, 1), 1);
        due("lost, none left", x.loses(1, 1), 0);
        int[] wants = {0, 0, 0, 0, 0, NONE, 0, 0};
        for (int what = 0; what < wants.length; what++) {
            due("now(" + what + ") of none", x.now(what), wants[what]);
        }
        due("order(0)", x.order(0), BAD);
        due("nine", x.nine(), 0);
        due("storm", x.storm(), NONE);
        due("who", x.who(), 128);
        due("best(-1)", x.best(-1), 0);
        due("best(-2)", x.best(-2), 0);
        due("best(-3)", x.best(-3), NONE);
        due("best(0)", x.best(0), NONE);
        due("ropes(0)", x.ropes(0), 0);
        due("ropes(1)", x.ropes(1), NONE);
        due("dark(60)", x.dark(60), 0);
        due("soon(60, -1)", x.soon(60, -1), 0);
        due("soon(60, 0)", x.soon(60, 0), NONE);
        due("odds, upper", x.odds(0, 0, 5, 0), 0);
        due("odds, lower", x.odds(0, 0, 5, 1), 1);
        due("keep", x.keep(0), 0);
        due("the carts are there still", x.count(0), 2);
        due("found", x.loses(1, 0), 1);
        due("found", x.loses(0, 0), 2);
        same("as they were found", Checks.row(x), "10");
        due("back to none", x.back(0), 0);
    }

    // "the latest of these (10 are known, older ones are lost)"; "how many more may be. STATE: none."
    private void undoneTen() {
        for (int done = 0; done <= 13; done++) {
            WalkingStreets x = Checks.town("c1 1;c1 1;c1 1;c1 1;c1 1;");
            String[] rows = new String[done];
            for (int i = 0; i < done; i++) {
                rows[i] = Checks.row(x);
                x.pin(x.order(i % 4));
            }
            int known = Math.min(done, 10);
            due("known of " + done, x.count(5), known);
            for (int i = 0; i < known; i++) {
                due("undo " + i + " of " + done, x.undo(), known - 1 - i);
                same("THE ORDER then", Checks.row(x), rows[done - 1 - i]);
                due("count then", x.count(5), known - 1 - i);
            }
            String oldest = Checks.row(x);
            due("undo of none", x.undo(), STATE);
            same("nothing changed", Checks.row(x), oldest);
            x.storm();
            due("one more may be", x.count(5), 1);
            due("undo of that", x.undo(), 0);
            same("as ahead of it", Checks.row(x), oldest);
        }
    }

    private void whatMayBeUndone() {
        WalkingStreets x = Checks.town("c1 1;c1 1;gffr;");
        x.saw(0, 1);
        x.forget();
        x.mark(0, 0);
        x.keep(0);
        x.who();
        x.best(0);
        x.type('c');
        x.clear();
        due("none of these may be undone", x.count(5), 0);
        due("undo", x.undo(), STATE);
        x.nine();
        due("NINE without LATE ones may be", x.count(5), 1);
        x.undo();
        due("undo may not", x.count(5), 0);
        x.storm();
        x.back(0);
        due("back may not", x.count(5), 0);
        due("undo of back", x.undo(), STATE);
    }

    private void undoOfALostCart() {
        WalkingStreets x = Checks.town("c1 1;c1 1;c1 1;gfff;");
        x.late(1, 1);
        x.loses(1, 1);
        x.loses(0, 1);
        x.loses(2, 1);
        due("undo of the last one LOST", x.undo(), 3);
        same("it is there again", Checks.row(x), "2");
        due("undo of the second one LOST", x.undo(), 2);
        same("where it was", Checks.row(x), "02");
        due("undo of the first one LOST", x.undo(), 1);
        same("between them", Checks.row(x), "012");
        due("LATE again", x.now(7), 2);
        due("with its gap", x.cart(2, 5), 2);
    }

    // "NONE: OUT, LATE, LOST"
    private void cellNone() {
        WalkingStreets x = Checks.town("c1 1;c1 1;c2 1;c1 1;gfff;");
        due("at CELL 0", x.cart(0, 5), 0);
        due("the first of two", Checks.town("c2 1;gff;").cart(0, 5), 0);
        due("OUT", x.cart(2, 5), NONE);
        due("behind one that is OUT", x.cart(3, 5), NONE);
        x.late(0, 1);
        due("LATE", x.cart(0, 5), NONE);
        x.loses(1, 1);
        due("LOST", x.cart(1, 5), NONE);
        due("moved up", x.cart(2, 5), 1);
        due("LOST: no place", x.cart(1, 6), NONE);
        due("LATE: its place", x.cart(0, 6), 0);
        due("OUT: its place", x.cart(3, 6), 2);
    }

    // "not OUT, the CELLS (or gap) of which do not begin right behind those of the one ahead in THE ORDER"
    private void breaks() {
        due("all but the first one", Checks.town(SEVEN + "gfrfrfrfrfrfrf;").now(2), 126);
        due("none", Checks.town(SEVEN + "gfffffff;").now(2), 0);
        due("the first one has none ahead", Checks.town("c1 1;grrf;").now(2), 0);
        due("a ford for the first one only", Checks.town("c1 1;c1 1;grff;").now(2), 0);
        due("one OUT behind a river", Checks.town("c1 1;c1 1;gfr;").now(2), 0);
        due("by cells too narrow", Checks.town("c1 1;c2 1;gffrff;").now(2), 2);
        due("the wide one's end", Checks.town("c3 1;c1 1;gffff;").now(2), 0);
        due("the wide one's ford", Checks.town("c3 1;c1 1;gfffrf;").now(2), 2);
        WalkingStreets x = Checks.town("c1 1;c1 1;c1 1;gfrff;");
        due("one", x.now(2), 2);
        x.late(0, 1);
        due("behind a gap", x.now(2), 2);
        x.late(1, 1);
        due("a gap", x.now(2), 2);
        x.loses(0, 1);
        due("ahead in THE ORDER is nobody now", x.now(2), 4);
        x.storm();
        due("turned about", x.now(2), 2);
        x.undo();
        x.undo();
        x.floods(1, 0);
        due("no ford", x.now(2), 0);
    }

    // "twos of a FEUD, both taking CELLS, with fewer than APART between them"
    private void near() {
        StringBuilder feuds = new StringBuilder();
        for (int a = 0; a < 7; a++) {
            for (int b = a + 1; b < 7; b++) {
                feuds.append("q").append(a).append(' ').append(b).append(';');
            }
        }
        int[] wants = {0, 6, 11, 15, 18, 20, 21, 21, 21, 21};
        for (int apart = 1; apart <= 9; apart++) {
            WalkingStreets x = Checks.town(SEVEN + feuds + "d" + apart + ";gfffffff;");
            due("NEAR by " + apart, x.now(3), wants[apart]);
            x.storm();
            due("NEAR by " + apart + ", turned about", x.now(3), wants[apart]);
        }
        WalkingStreets none = Checks.town(SEVEN + "d9;gfffffff;");
        due("without a FEUD", none.now(3), 0);
        WalkingStreets wide = Checks.town("c6 1;c1 1;q1 0;d1;gfffffff;");
        due("right behind a wide one", wide.now(3), 1);
        wide.storm();
        due("right ahead of it", wide.now(3), 1);
        due("BETWEEN", wide.between(0, 1), 0);
    }

    private void nearOfThoseWithoutCells() {
        String text = "c1 1;c1 1;q0 1;d9;gff;";
        for (int c = 0; c < 2; c++) {
            WalkingStreets x = Checks.town(text);
            due("both take CELLS", x.now(3), 1);
            x.late(c, 1);
            due("one is LATE", x.now(3), 0);
            x.late(c, 0);
            due("it is there", x.now(3), 1);
            x.loses(c, 1);
            due("one is LOST", x.now(3), 0);
            x.loses(c, 0);
            x.floods(1, 1);
            due("one is OUT", x.now(3), 0);
        }
    }

    // "CARTS (bits) that take some hill"
    private void onHills() {
        due("its first CELL", Checks.town("c3 1;ghff;").now(4), 1);
        due("its last CELL", Checks.town("c3 1;gffhf;").now(4), 1);
        due("right behind it", Checks.town("c3 1;gfffh;").now(4), 0);
        due("right ahead of it", Checks.town("c3 1;ghrfff;").now(4), 0);
        due("all seven", Checks.town(SEVEN + "ghhhhhhh;").now(4), 127);
        due("the last CELL of 40", Checks.town("c1 1;g" + "r".repeat(39) + "h;").now(4), 1);
        WalkingStreets x = Checks.town("c1 1;c1 1;c1 1;ghhh;");
        x.late(0, 1);
        due("not a LATE one", x.now(4), 6);
        x.loses(1, 1);
        due("not a LOST one", x.now(4), 4);
        x.floods(1, 1);
        due("the hill behind", x.now(4), 4);
        x.floods(2, 1);
        due("not one that is OUT", x.now(4), 0);
        x.floods(1, 0);
        due("a hill that is dry again", x.now(4), 4);
        WalkingStreets y = Checks.town("c1 1;gr;");
        y.floods(0, 0);
        due("a river that is dry is flat", y.now(4), 0);
        due("it stands there", y.cart(0, 5), 0);
    }

    // "5 the last CELL taken (NONE)"
    private void lastCell() {
        due("CELL 0", Checks.town("c1 1;gff;").now(5), 0);
        due("CELL 39", Checks.town("c6 1;g" + "r".repeat(34) + "ffffff;").now(5), 39);
        due("none stands", Checks.town("c1 1;gr;").now(5), NONE);
        due("no cart", Checks.town("gf;").now(5), NONE);
        WalkingStreets x = Checks.town("c1 1;c2 1;gfff;");
        due("the last one's", x.now(5), 2);
        x.late(1, 1);
        due("not a gap's", x.now(5), 0);
        x.storm();
        due("behind a gap", x.now(5), 2);
    }

    // "LEAST: how many CELLS GROUND would need at least without rivers (all AXLES of THE ORDER)"
    private void least() {
        due("of none", new WalkingStreets().now(6), 0);
        due("of one", Checks.town("c1 1;").now(6), 1);
        WalkingStreets x = Checks.town("c6 1;".repeat(7) + "gf;");
        due("of the most", x.now(6), 42);
        x.late(0, 1);
        due("with LATE ones", x.now(6), 42);
        x.loses(0, 1);
        due("without LOST ones", x.now(6), 36);
        WalkingStreets y = Checks.town("c1 1;c2 1;");
        y.widens(0);
        due("as wide as NOW", y.now(6), 4);
    }

    // "Who is the i-th in THE ORDER (0 the first). BAD."; "its place in THE ORDER (NONE)"
    private void orderAndPlace() {
        WalkingStreets x = Checks.town(SEVEN);
        x.storm();
        for (int i = 0; i < 7; i++) {
            due("order(" + i + ")", x.order(i), 6 - i);
            due("its place", x.cart(6 - i, 6), i);
        }
        due("order(7)", x.order(7), BAD);
        due("order(-1)", x.order(-1), BAD);
        due("order(0) of none", new WalkingStreets().order(0), BAD);
        x.loses(3, 1);
        due("order(6) of six", x.order(6), BAD);
        due("order(5) of six", x.order(5), 0);
        due("the place of the last", x.cart(0, 6), 5);
    }

    // "Who takes a CELL (NONE)"
    private void takesEach() {
        WalkingStreets x = Checks.town("c6 1;c1 1;grffffffhrf;");
        int[] wants = {NONE, 0, 0, 0, 0, 0, 0, 1, NONE, NONE};
        for (int k = 0; k < wants.length; k++) {
            due("takes(" + k + ")", x.takes(k), wants[k]);
        }
        due("takes(10)", x.takes(10), BAD);
        WalkingStreets y = Checks.town("c1 1;g" + "r".repeat(39) + "f;");
        due("takes(39)", y.takes(39), 0);
        due("takes(38)", y.takes(38), NONE);
        due("takes(40)", y.takes(40), BAD);
    }

    private NightEdgeTests() {
    }
}
