/** The boundary cases of THE TEXT ('Terms' 1, promises 1 to 4): each method names the words that it tries. */
final class TextEdgeTests {
    private static final int BAD = WalkingStreets.BAD;
    private static final int STATE = WalkingStreets.STATE;
    private static final int FULL = WalkingStreets.FULL;
    private static final int NONE = WalkingStreets.NONE;
    private static final String LETTERS = "cqdmg";
    private static final String DIGITS = "0123456789";

    private final Checks checks = new Checks();

    public static void main(String[] args) {
        TextEdgeTests tests = new TextEdgeTests();
        tests.bytesOfTheText();
        tests.aTextOf180();
        tests.emptyTexts();
        tests.blanks();
        tests.bytesThatBeginAnItem();
        tests.bytesWhereANumberIsDue();
        tests.bytesBehindANumber();
        tests.bytesOfGround();
        tests.numbers();
        tests.numbersThatWrapAround();
        tests.endsTooEarly();
        tests.cartsAtMost();
        tests.axleAndPace();
        tests.feuds();
        tests.feudsOfOne();
        tests.apart();
        tests.miles();
        tests.onceEach();
        tests.ground();
        tests.firstFault();
        tests.readAfterAFault();
        tests.readAnew();
        tests.readAnewWithLess();
        tests.clear();
        tests.calls512();
        tests.checks.end();
    }

    private void due(String call, long got, long want) {
        checks.due(call, got, want);
    }

    private void reads(String text, int items) {
        WalkingStreets x = new WalkingStreets();
        Checks.type(x, text);
        due("town of '" + text + "'", x.town(), items);
        due("bytes left of '" + text + "'", x.count(6), items < 0 ? text.length() : 0);
    }

    private void fault(String text, int place) {
        reads(text, -10 - place);
    }

    // "A byte (0 .. 255) comes to THE TEXT: how many it has. BAD; FULL."; "180 bytes at most"
    private void bytesOfTheText() {
        WalkingStreets x = new WalkingStreets();
        for (int b = 0; b <= 255; b++) {
            due("type(" + b + ")", x.type(b), b < 180 ? b + 1 : FULL);
        }
        for (int b : new int[] {-1, 256, -128, Integer.MIN_VALUE, Integer.MAX_VALUE}) {
            due("type(" + b + ") into a full text", x.type(b), BAD);
            due("type(" + b + ") into an empty text", new WalkingStreets().type(b), BAD);
        }
        due("bytes", x.count(6), 180);
    }

    private void aTextOf180() {
        String blanks = " ".repeat(175);
        reads(blanks + "c1 1;", 1);
        reads("c1 1;" + blanks, 1);
        reads(" ".repeat(180), 0);
        fault(" ".repeat(176) + "c1 1", 180);
        fault(" ".repeat(179) + "c", 180);
        fault(" ".repeat(179) + ";", 179);
        fault(" ".repeat(179) + (char) 255, 179);
        fault("c1 1;".repeat(36), 35);
        // As many items as there can be.
        reads("c1 1;c1 1;" + "q0 1;".repeat(34), 36);
        WalkingStreets x = new WalkingStreets();
        Checks.type(x, "c1 1;" + " ".repeat(175));
        due("the 181st byte", x.type('x'), FULL);
        due("is not read", x.town(), 1);
        due("and there is room again", x.type('x'), 1);
    }

    // "THE TEXT tells all": nothing told, no ITEMS
    private void emptyTexts() {
        reads("", 0);
        reads(" ", 0);
        WalkingStreets x = new WalkingStreets();
        due("town of nothing", x.town(), 0);
        due("no carts", x.count(0), 0);
        due("no cells", x.count(1), 0);
        due("APART", x.count(2), 4);
        due("MILES", x.count(3), 9);
    }

    // "blanks (32) between TOKENS"
    private void blanks() {
        reads("   c   6   9   ;   ", 1);
        reads("c6 9;d 3;m 20;g f h r;", 4);
        reads("c6 9 ; d3 ; m20 ; gf h r ;", 4);
        fault("c6 9;d3 0;", 8);
        fault("c6 9;m2 0;", 8);
        for (int b = 0; b <= 255; b++) {
            String text = "c1 1;" + (char) b + "d4;";
            if (b == ' ') {
                reads(text, 2);
            } else {
                fault(text, LETTERS.indexOf((char) b) >= 0 ? 6 : 5);
            }
        }
    }

    // "a letter that begins no ITEM"; "a byte that begins none"
    private void bytesThatBeginAnItem() {
        for (int b = 0; b <= 255; b++) {
            String text = String.valueOf((char) b);
            if (b == ' ') {
                reads(text, 0);
            } else {
                fault(text, LETTERS.indexOf((char) b) >= 0 ? 1 : 0);
            }
        }
        // 99 is the byte of c.
        fault("99 1 1;", 0);
        fault("99;", 0);
        fault("0;", 0);
        fault("c1 1;99 1 1;", 5);
    }

    private void bytesWhereANumberIsDue() {
        for (int b = 0; b <= 255; b++) {
            char c = (char) b;
            if (DIGITS.indexOf(c) > 0) {
                reads("m" + c + ";", 1);
                reads("d" + c + ";", 1);
                reads("c1 " + c + ";", 1);
            } else {
                fault("m" + c + ";", c == ' ' ? 2 : 1);
                fault("d" + c + ";", c == ' ' ? 2 : 1);
                fault("c1 " + c + ";", c == ' ' ? 4 : 3);
            }
        }
    }

    private void bytesBehindANumber() {
        for (int b = 0; b <= 255; b++) {
            char c = (char) b;
            String text = "m1" + c + ";";
            if (c == ' ' || DIGITS.indexOf(c) >= 0) {
                reads(text, 1);
                due("MILES of '" + text + "'", Checks.town(text).count(3), c == ' ' ? 1 : 10 + c - '0');
            } else {
                fault(text, c == ';' ? 3 : 2);
            }
            String cart = "c1" + c + "1;";
            if (c == ' ') {
                reads(cart, 1);
            } else {
                fault(cart, DIGITS.indexOf(c) >= 0 ? 1 : 2);
            }
        }
    }

    // "each a letter f (flat), h (hill), r (river)"
    private void bytesOfGround() {
        for (int b = 0; b <= 255; b++) {
            char c = (char) b;
            boolean cell = "fhr".indexOf(c) >= 0;
            if (cell || c == ' ') {
                reads("gf" + c + ";", 1);
                due("cells of 'gf" + c + ";'", Checks.town("gf" + c + ";").count(1), cell ? 2 : 1);
            } else {
                fault("gf" + c + ";", c == ';' ? 3 : 2);
            }
            if (cell) {
                reads("g" + c + ";", 1);
                due("what '" + c + "' is", Checks.town("g" + c + ";").ground(0), "fhr".indexOf(c));
            } else {
                fault("g" + c + ";", c == ' ' ? 2 : 1);
            }
        }
    }

    // "a NUMBER above 99 or with a 0 ahead of others, that TOKEN's"
    private void numbers() {
        fault("c99 1;", 1);
        fault("c100 1;", 1);
        fault("c 100 1;", 2);
        fault("m99;", 1);
        fault("m100;", 1);
        fault("m 100;", 2);
        fault("m01;", 1);
        fault("m00;", 1);
        fault("m000;", 1);
        fault("m010;", 1);
        fault("m 09;", 2);
        fault("d04;", 1);
        fault("c06 9;", 1);
        fault("c6 09;", 3);
        fault("c16 9;", 1);
        fault("c69;", 1);
        fault("c1 1;c1 1;q01 0;", 11);
        fault("c1 1;c1 1;q0 01;", 13);
        fault("c1 1;c1 1;q00 1;", 11);
        fault("c1 1;c1 1;q1 00;", 13);
        fault("c1 1;c1 1;q1 100;", 13);
        fault("01;", 0);
        fault("100;", 0);
        fault("c1 1;100;", 5);
        fault("c1 1 100;", 5);
        fault("c1 1 01;", 5);
        fault("gf01;", 2);
        fault("gf100;", 2);
        reads("m10;", 1);
        reads("m 60 ;", 1);
    }

    /** Numbers that an int or a long would take for a small one. */
    private void numbersThatWrapAround() {
        String[] far = {"257", "65537", "4294967297", "18446744073709551617", "4294967300",
            "340282366920938463463374607431768211457", "1" + "0".repeat(32) + "1", "9".repeat(170)};
        for (String number : far) {
            fault("m" + number + ";", 1);
            fault("d" + number + ";", 1);
            fault("c" + number + " 1;", 1);
            fault("c1 " + number + ";", 3);
            if (number.length() < 160) {
                fault("c1 1;c1 1;q" + number + " 0;", 11);
                fault("c1 1;c1 1;q0 " + number + ";", 13);
            }
        }
        fault("m" + "0".repeat(100) + "1;", 1);
    }

    // "the text's length, if it ends too early"
    private void endsTooEarly() {
        String text = "c2 3;c 1 9 ;q0 1;d3;m 20;g fhr ;";
        int items = 0;
        for (int length = 0; length <= text.length(); length++) {
            String start = text.substring(0, length);
            items += start.endsWith(";") ? 1 : 0;
            if (start.isEmpty() || start.endsWith(";")) {
                reads(start, items);
                reads(start + "  ", items);
            } else {
                fault(start, length);
                fault(start + "  ", length + 2);
            }
        }
        due("items", items, 6);
    }

    // "CARTS 0 .. (7 of them at most)"; "an eighth cart"
    private void cartsAtMost() {
        for (int carts = 0; carts <= 8; carts++) {
            String text = "c1 1;".repeat(carts);
            reads(text, carts < 8 ? carts : -10 - 35);
            WalkingStreets x = Checks.town(text);
            int read = carts < 8 ? carts : 0;
            due("carts of " + carts, x.count(0), read);
            due("in THE ORDER of " + carts, x.now(0), read);
            due("the last of " + carts, x.cart(read - 1, 0), read > 0 ? 1 : BAD);
            due("one beyond " + carts, x.cart(read, 0), BAD);
        }
        fault("c1 1;".repeat(7) + "c", 35);
        fault("c1 1;".repeat(7) + "   c9 9;", 38);
        fault("c1 1;".repeat(7) + "d4;c1 1;", 38);
        reads("c1 1;".repeat(7) + "d4;", 8);
    }

    // "AXLE (1 .. 6 CELLS), PACE (1 .. 9 miles an hour)"
    private void axleAndPace() {
        for (int axle = 0; axle <= 10; axle++) {
            for (int pace = 0; pace <= 11; pace++) {
                String text = "c" + axle + " " + pace + ";";
                boolean axleHolds = axle >= 1 && axle <= 6;
                boolean paceHolds = pace >= 1 && pace <= 9;
                int paceAt = text.indexOf(' ') + 1;
                reads(text, !axleHolds ? -11 : !paceHolds ? -10 - paceAt : 1);
                if (axleHolds && paceHolds) {
                    WalkingStreets x = Checks.town(text);
                    due("AXLE of '" + text + "'", x.cart(0, 0), axle);
                    due("PACE of '" + text + "'", x.cart(0, 1), pace);
                }
            }
        }
    }

    // "q A B (told ahead, unlike: a feud; told again: well)"; "B that is A"
    private void feuds() {
        for (int carts = 0; carts <= 7; carts++) {
            String ahead = "c1 1;".repeat(carts);
            for (int a = 0; a <= 8; a++) {
                for (int b = 0; b <= 8; b++) {
                    String text = ahead + "q" + a + " " + b + ";";
                    int at = ahead.length() + 1;
                    int want = a >= carts ? -10 - at : b >= carts || b == a ? -12 - at : carts + 1;
                    reads(text, want);
                    if (want > 0) {
                        WalkingStreets x = Checks.town(text);
                        due("feuds of A, '" + text + "'", x.cart(a, 4), 1 << b);
                        due("feuds of B, '" + text + "'", x.cart(b, 4), 1 << a);
                    }
                }
            }
        }
        fault("q0 1;c1 1;c1 1;", 1);
        fault("c1 1;q0 1;c1 1;", 8);
        fault("c1 1;c1 1;q 0 0;", 14);
    }

    private void feudsOfOne() {
        WalkingStreets x = Checks.town("c1 1;c1 1;c1 1;q0 1;q0 1;q1 0;gfff;");
        due("told again: feuds of 0", x.cart(0, 4), 2);
        due("told again: feuds of 1", x.cart(1, 4), 1);
        due("told again: feuds of 2", x.cart(2, 4), 0);
        due("told again: NEAR", x.now(3), 1);
        due("told again: the DYER's", x.mark(4, 0), 2);
        StringBuilder text = new StringBuilder("c1 1;".repeat(7));
        for (int a = 0; a < 7; a++) {
            for (int b = a + 1; b < 7; b++) {
                text.append("q").append(b).append(' ').append(a).append(';');
            }
        }
        WalkingStreets y = Checks.town(text + "d9;gfffffff;");
        for (int c = 0; c < 7; c++) {
            due("all feuds of " + c, y.cart(c, 4), 127 - (1 << c));
        }
        due("all twos are NEAR", y.now(3), 21);
        due("the fewest of them", y.best(-2), 21);
    }

    // "APART (1 .. 9; 4 at first)"
    private void apart() {
        for (int d = 0; d <= 11; d++) {
            String text = "d" + d + ";";
            reads(text, d >= 1 && d <= 9 ? 1 : -11);
            due("APART of '" + text + "'", Checks.town(text).count(2), d >= 1 && d <= 9 ? d : 4);
        }
        for (int d = 1; d <= 9; d++) {
            nearBy("d" + d + ";", d);
        }
        nearBy("", 4);
    }

    private void nearBy(String text, int apart) {
        String two = "c1 1;c1 1;q0 1;" + text + "gf";
        due("NEAR, one fewer than APART", Checks.town(two + "r".repeat(apart - 1) + "f;").now(3), 1);
        due("NEAR, as many as APART", Checks.town(two + "r".repeat(apart) + "f;").now(3), 0);
        due("BEST, one fewer than APART", Checks.town(two + "r".repeat(apart - 1) + "f;").best(-2), 1);
        due("BEST, as many as APART", Checks.town(two + "r".repeat(apart) + "f;").best(-2), 0);
    }

    // "MILES (1 .. 60; 9 at first)"
    private void miles() {
        for (int m = 0; m <= 62; m++) {
            String text = "m" + m + ";";
            boolean holds = m >= 1 && m <= 60;
            reads(text, holds ? 1 : -11);
            due("MILES of '" + text + "'", Checks.town(text).count(3), holds ? m : 9);
            if (holds) {
                WalkingStreets x = Checks.town(text + "c1 1;");
                due("dark by " + m, x.dark(m), 1);
                due("dark by " + (m - 1), x.dark(m - 1), m > 1 ? 0 : BAD);
            }
        }
        WalkingStreets first = Checks.town("c1 1;");
        due("dark by 9 at first", first.dark(9), 1);
        due("dark by 8 at first", first.dark(8), 0);
    }

    // "d, m, g once each at most"
    private void onceEach() {
        String[] items = {"d4;", "m9;", "gf;"};
        for (String first : items) {
            for (String second : items) {
                reads(first + second, first.equals(second) ? -13 : 2);
                for (String third : items) {
                    boolean again = third.equals(first) || third.equals(second);
                    if (!first.equals(second)) {
                        reads(first + second + third, again ? -16 : 3);
                    }
                }
            }
        }
        fault("d4;d", 3);
        fault("d4; d0;", 4);
        fault("m9;m", 3);
        fault("gf;g", 3);
        fault("gf;c1 1;gr;", 8);
    }

    // "CELLS (40 of them at most)"; "1 to 40 of them"; "a forty-first CELL"
    private void ground() {
        for (int cells = 0; cells <= 43; cells++) {
            String text = "g" + "h".repeat(cells) + ";";
            boolean holds = cells >= 1 && cells <= 40;
            reads(text, holds ? 1 : cells == 0 ? -11 : -10 - 41);
            WalkingStreets x = Checks.town(text);
            int read = holds ? cells : 0;
            due("cells of " + cells, x.count(1), read);
            due("the last one of " + cells, x.ground(read - 1), read > 0 ? 1 : BAD);
            due("one beyond " + cells, x.ground(read), BAD);
            due("who takes the last one of " + cells, x.takes(read - 1), read > 0 ? NONE : BAD);
            due("who takes one beyond " + cells, x.takes(read), BAD);
        }
        String forty = "g" + "f".repeat(40);
        fault(forty + "f", 41);
        fault(forty + "r;", 41);
        fault(forty + "  h;", 43);
        fault(forty, 41);
        fault(forty + "1;", 41);
        reads(forty + " ;", 1);
        reads("g" + " r".repeat(40) + ";", 1);
        fault("g" + " r".repeat(41) + ";", 82);
    }

    // "the first TOKEN that can't stand there"
    private void firstFault() {
        fault("x01;", 0);
        fault("c7 01;", 1);
        fault("c1 100 x;", 3);
        fault("c1 1?;", 4);
        fault("q9 9;x", 1);
        fault("c1 1;c1 1;q1 1;d0;", 13);
        fault("d1;m1;d1;m1;", 6);
        fault("c1 1;c8 1;d0;", 6);
        fault("c1 1;;d0;", 5);
        fault("cc", 1);
        fault("c;", 1);
        fault("c1;", 2);
        fault("c1 c;", 3);
        fault("c1 1 g", 5);
        fault("q;", 1);
        fault("d;", 1);
        fault("m;", 1);
        fault("dd;", 1);
        fault("m1m;", 2);
        fault("d1 g;", 3);
        fault("gg;", 1);
        fault("gfg;", 2);
        fault("gfc;", 2);
    }

    /** What a faulty text told ahead of its fault is not told. */
    private void readAfterAFault() {
        WalkingStreets x = new WalkingStreets();
        Checks.type(x, "c2 3;c1 4;q0 1;d7;m50;gfh;x");
        due("a fault at the end", x.town(), -10 - 26);
        for (int what = 0; what < 6; what++) {
            due("count(" + what + ") then", x.count(what), new int[] {0, 0, 4, 9, 0, 0}[what]);
        }
        due("the same fault again", x.town(), -10 - 26);
        due("clear", x.clear(), 27);
        Checks.type(x, "c1 1;c1 1;d8;m40;gr;");
        due("all may be told once then", x.town(), 5);
        due("no feud is left of it", x.cart(0, 4), 0);
        due("AXLE", x.cart(0, 0), 1);
        Checks.type(x, "c1 1");
        due("too early", x.town(), -14);
        due("the text goes on", x.type(';'), 5);
        due("and is read", x.town(), 1);
    }

    // "Read anew: as told, nothing SEEN or to be UNDONE, IMAGES are gone."
    private void readAnew() {
        WalkingStreets x = Checks.town("c2 3;c6 2;c1 1;q0 1;d2;m30;gfhrfffffffff;");
        x.late(0, 1);
        x.loses(2, 1);
        x.storm();
        x.widens(0);
        x.floods(0, 1);
        x.floods(2, 0);
        x.saw(0, 1);
        x.keep(0);
        x.keep(1);
        x.mark(5, 0);
        Checks.type(x, "c2 3;c6 2;c1 1;q0 1;d2;m30;gfhrfffffffff;");
        due("the same text anew", x.town(), 7);
        checks.same("THE ORDER anew", Checks.row(x), "012");
        checks.same("CELLS anew", Checks.cells(x), "0 3 9");
        int[] wants = {3, 0, 2, 1, 1, 9, 9, 0};
        for (int what = 0; what < wants.length; what++) {
            due("now(" + what + ") anew", x.now(what), wants[what]);
        }
        due("AXLE anew", x.cart(0, 0), 2);
        due("a flooded CELL anew", x.ground(0), 0);
        due("a dry river anew", x.ground(2), 2);
        due("SEEN anew", x.count(4), 0);
        due("who anew", x.who(), 7 | 128);
        due("to be UNDONE anew", x.count(5), 0);
        due("undo anew", x.undo(), STATE);
        due("IMAGE 0 anew", x.back(0), STATE);
        due("IMAGE 1 anew", x.back(1), STATE);
        due("THE TRACE stays", x.trace(), 100001);
        due("six may be SEEN anew", x.saw(0, 1), 1);
    }

    private void readAnewWithLess() {
        WalkingStreets x = Checks.town("c6 9;".repeat(7) + "q0 6;d9;m60;g" + "r".repeat(40) + ";");
        Checks.type(x, "c1 1;gf;");
        due("a smaller text", x.town(), 2);
        int[] wants = {1, 1, 4, 9, 0, 0, 0};
        for (int what = 0; what < wants.length; what++) {
            due("count(" + what + ") of the smaller one", x.count(what), wants[what]);
        }
        due("no second cart", x.cart(1, 0), BAD);
        due("no feud", x.cart(0, 4), 0);
        due("no second cell", x.ground(1), BAD);
        due("the first cell", x.takes(0), 0);
        Checks.type(x, "c1 1;");
        due("a text without ground", x.town(), 1);
        due("no cell", x.count(1), 0);
        due("it is OUT", x.now(1), 1);
        Checks.type(x, "gff;");
        due("a text without carts", x.town(), 1);
        due("nobody", x.count(0), 0);
        due("nobody is OUT", x.now(1), 0);
        due("nobody takes it", x.takes(1), NONE);
        due("the empty text", x.town(), 0);
        due("no cell then", x.ground(0), BAD);
    }

    // "THE TEXT is empty: how many bytes it had."
    private void clear() {
        WalkingStreets x = new WalkingStreets();
        due("clear of an empty text", x.clear(), 0);
        due("type", x.type(0), 1);
        due("clear of one byte", x.clear(), 1);
        due("clear again", x.clear(), 0);
        Checks.type(x, ";".repeat(180));
        due("clear of a full text", x.clear(), 180);
        due("bytes", x.count(6), 0);
        due("type then", x.type(255), 1);
        due("clear of that", x.clear(), 1);
        due("town of the cleared text", x.town(), 0);
    }

    // "An object is used for at most 512 calls after it has been made"
    private void calls512() {
        String text = "c1 1;".repeat(7) + "g" + "f".repeat(40) + ";";
        WalkingStreets x = new WalkingStreets();
        Checks.type(x, text + " ".repeat(180 - text.length()));
        int calls = 180;
        due("town", x.town(), 8);
        calls++;
        long sum = 0;
        for (; calls < 510; calls++) {
            due("mark", x.mark(5, 6), 1);
            sum += 100001;
        }
        due("the 511th call", x.storm(), 6);
        due("the 512th call", x.trace(), sum);
    }

    private TextEdgeTests() {
    }
}
