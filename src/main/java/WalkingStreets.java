/** A town of carts that sets itself up each night in its order. What each call answers: DOC.md. */
public final class WalkingStreets {
    public static final int BAD = -1, STATE = -2, FULL = -3, NONE = -9;
    public static final int NO = -1000000;

    private static final int MOST_CARTS = 7;
    private static final int MOST_CELLS = 40;
    private static final int MOST_BYTES = 180;
    private static final int MOST_SEEN = 6;
    private static final int MOST_PAST = 10;
    private static final int MOST_BRIDGES = 3;
    private static final int IMAGES = 2;
    private static final int WIDEST = 6;
    private static final int FASTEST = 9;
    private static final int FARTHEST_APART = 9;
    private static final int MOST_MILES = 60;
    private static final int MOST_HOURS = 60;
    private static final int TENTHS = 10;
    /** Far more than a common divisor of two ints takes. */
    private static final int MOST_STEPS = 1000;
    private static final int NOBODY = 128;
    private static final int FLAT = 0, HILL = 1, RIVER = 2;
    private static final int CART = 0, CHURCH = 1, BAKER = 2, MILL = 3, DYER = 4, GUEST = 5;

    private final Text text;
    private final Told told;
    private final Told draft;
    private final Scene live;
    private final Scene[] images;
    private final Room room;
    private final int[] firsts;
    private int placed;
    private final BestOrder bestOrder;
    private boolean bestKnown;
    private final Bridges bridges;
    private final int[] seenAhead;
    private final int[] seenBehind;
    private int seen;
    private long traced;
    private final int[] otherRow;
    private final int[] otherFirsts;

    public WalkingStreets() {
        text = new Text();
        told = new Told();
        draft = new Told();
        live = new Scene();
        images = new Scene[IMAGES];
        for (int i = 0; i < IMAGES; i++) {
            images[i] = new Scene();
        }
        room = new Room();
        firsts = new int[MOST_CARTS];
        bestOrder = new BestOrder(told, live.night, room);
        bridges = new Bridges();
        seenAhead = new int[MOST_SEEN];
        seenBehind = new int[MOST_SEEN];
        otherRow = new int[MOST_CARTS];
        otherFirsts = new int[MOST_CARTS];
        startAsTold();
    }

    // ---- the town.

    public int type(int c) {
        if (c < 0 || c > 255) {
            return BAD;
        }
        return text.add(c) ? text.length : FULL;
    }

    public int clear() {
        int had = text.length;
        text.drop();
        return had;
    }

    public int town() {
        int items = text.readInto(draft);
        if (items < 0) {
            return items;
        }
        told.become(draft);
        text.drop();
        startAsTold();
        return items;
    }

    public int cart(int c, int what) {
        if (!isCart(c)) {
            return BAD;
        }
        switch (what) {
            case 0:
                return live.night.axle[c];
            case 1:
                return told.pace[c];
            case 2:
                return live.night.isLate(c) ? 1 : 0;
            case 3:
                return live.night.isLost(c) ? 1 : 0;
            case 4:
                return told.feuds[c];
            case 5:
                return cellOf(c);
            case 6:
                return live.night.placeOf(c);
            default:
                return BAD;
        }
    }

    public int ground(int k) {
        return isCell(k) ? groundNow(k) : BAD;
    }

    public int takes(int k) {
        if (!isCell(k)) {
            return BAD;
        }
        for (int c = 0; c < told.carts; c++) {
            int cell = cellOf(c);
            if (cell != NONE && cell <= k && k < cell + live.night.axle[c]) {
                return c;
            }
        }
        return NONE;
    }

    // ---- what is done.

    public int late(int c, int is) {
        if (!isCart(c) || !isFlag(is)) {
            return BAD;
        }
        if (live.night.isLost(c) || live.night.isLate(c) == (is == 1)) {
            return STATE;
        }
        live.remember();
        live.night.setLate(c, is == 1);
        settle();
        return cellOf(c);
    }

    public int nine() {
        live.remember();
        int went = Integer.bitCount(live.night.late);
        partRow(live.night.late);
        System.arraycopy(otherRow, 0, live.night.row, 0, live.night.many);
        live.night.late = 0;
        settle();
        return went;
    }

    public int pin(int c) {
        if (!isCart(c)) {
            return BAD;
        }
        int place = live.night.placeOf(c);
        if (place == NONE || place == live.night.many - 1) {
            return STATE;
        }
        live.remember();
        live.night.takeOut(c);
        live.night.addBehind(c);
        settle();
        return cellOf(c);
    }

    public int storm() {
        live.remember();
        live.night.turnAbout();
        settle();
        return live.night.many > 0 ? live.night.row[0] : NONE;
    }

    public int widens(int c) {
        if (!isCart(c)) {
            return BAD;
        }
        if (live.night.axle[c] >= WIDEST) {
            return STATE;
        }
        live.remember();
        live.night.axle[c]++;
        settle();
        return live.night.axle[c];
    }

    public int floods(int k, int is) {
        if (!isCell(k) || !isFlag(is)) {
            return BAD;
        }
        if (live.night.isRiver(k) == (is == 1)) {
            return STATE;
        }
        live.remember();
        live.night.rivers ^= 1L << k;
        settle();
        return groundNow(k);
    }

    public int loses(int c, int is) {
        if (!isCart(c) || !isFlag(is)) {
            return BAD;
        }
        if (live.night.isLost(c) == (is == 1)) {
            return STATE;
        }
        live.remember();
        if (is == 1) {
            live.night.takeOut(c);
            live.night.setLate(c, false);
        } else {
            live.night.addBehind(c);
        }
        settle();
        return live.night.many;
    }

    public int undo() {
        if (!live.recall()) {
            return STATE;
        }
        settle();
        return live.pastMany;
    }

    public int now(int what) {
        switch (what) {
            case 0:
                return live.night.many;
            case 1:
                return live.night.many - placed;
            case 2:
                return breaks();
            case 3:
                return nearTwos();
            case 4:
                return onHills();
            case 5:
                return lastTaken();
            case 6:
                return live.night.widthOfAll();
            case 7:
                return live.night.late;
            default:
                return BAD;
        }
    }

    public int order(int i) {
        return i >= 0 && i < live.night.many ? live.night.row[i] : BAD;
    }

    // ---- how it stands.

    public int between(int a, int b) {
        return areTwo(a, b) ? cellsBetween(a, b) : BAD;
    }

    public int windward(int a, int b) {
        if (!areTwo(a, b)) {
            return BAD;
        }
        int cellOfA = cellOf(a);
        int cellOfB = cellOf(b);
        if (cellOfA == NONE || cellOfB == NONE) {
            return NONE;
        }
        return cellOfA < cellOfB ? 1 : 0;
    }

    // ---- how it should.

    public int best(int i) {
        if (i < -3 || i >= MOST_CARTS) {
            return BAD;
        }
        if (!bestKnown) {
            bestOrder.search();
            bestKnown = true;
        }
        switch (i) {
            case -1:
                return bestOrder.stand;
            case -2:
                return bestOrder.near;
            case -3:
                return bestOrder.stand > 0 ? bestOrder.last : NONE;
            default:
                return i < live.night.many ? bestOrder.row[i] : NONE;
        }
    }

    public int ropes(int what) {
        if (what < 0 || what > MOST_BRIDGES) {
            return BAD;
        }
        int many = bridges.search(live.night, told.cells);
        if (many > MOST_BRIDGES) {
            return NONE;
        }
        if (what == 0) {
            return many;
        }
        return what <= many ? bridges.chosen[what - 1] : NONE;
    }

    public int dark(int h) {
        if (!isHour(h)) {
            return BAD;
        }
        int in = 0;
        // Nobody is overtaken: behind one that is too slow nobody is in by then.
        while (in < live.night.many && told.hours(live.night.row[in]) <= h) {
            in++;
        }
        return in;
    }

    public int soon(int h, int i) {
        if (!isHour(h) || i < -1 || i >= MOST_CARTS) {
            return BAD;
        }
        int quick = 0;
        for (int c = 0; c < told.carts; c++) {
            if (isQuick(c, h) && !live.night.isLost(c)) {
                quick++;
            }
        }
        if (i == -1) {
            return quick;
        }
        return i < quick ? ithOfPace(h, true, i) : ithOfPace(h, false, i - quick);
    }

    // ---- what was seen, odds.

    public int saw(int a, int b) {
        if (!areTwo(a, b)) {
            return BAD;
        }
        if (seen >= MOST_SEEN) {
            return FULL;
        }
        seenAhead[seen] = a;
        seenBehind[seen] = b;
        seen++;
        return seen;
    }

    public int forget() {
        int had = seen;
        seen = 0;
        return had;
    }

    public int who() {
        int bits = 0;
        for (int i = 0; i < live.night.many; i++) {
            int c = live.night.row[i];
            partRow(1 << c);
            if (allSeenIn(otherRow)) {
                bits |= 1 << c;
            }
        }
        return allSeenIn(live.night.row) ? bits | NOBODY : bits;
    }

    public int odds(int c, int k, int x, int what) {
        if (!isCart(c) || !isCell(k) || x < 0 || x > TENTHS || !isFlag(what)) {
            return BAD;
        }
        int upper = waysToStandAt(c, k, x);
        int lower = power(TENTHS, live.night.many);
        int common = commonDivisor(upper, lower);
        if (common < 1) {
            return BAD;
        }
        return (what == 0 ? upper : lower) / common;
    }

    // ---- kinds, images.

    public int mark(int kind, int c) {
        if (!isCart(c)) {
            return NO;
        }
        switch (kind) {
            case CART:
                return markOfCart(c);
            case CHURCH:
                return markOfChurch(c);
            case BAKER:
                return markOfBaker(c);
            case MILL:
                return markOfMill(c);
            case DYER:
                return markOfDyer(c);
            case GUEST:
                return markOfGuest(c);
            default:
                return NO;
        }
    }

    public int keep(int image) {
        if (image < 0 || image >= IMAGES) {
            return BAD;
        }
        images[image].become(live);
        images[image].kept = true;
        return live.night.many;
    }

    public int back(int image) {
        if (image < 0 || image >= IMAGES) {
            return BAD;
        }
        if (!images[image].kept) {
            return STATE;
        }
        live.become(images[image]);
        settle();
        return live.night.many;
    }

    public int count(int what) {
        switch (what) {
            case 0:
                return told.carts;
            case 1:
                return told.cells;
            case 2:
                return told.apart;
            case 3:
                return told.miles;
            case 4:
                return seen;
            case 5:
                return live.pastMany;
            case 6:
                return text.length;
            default:
                return BAD;
        }
    }

    public long trace() {
        return traced;
    }

    // ---- what the calls share.

    private boolean isCart(int c) {
        return c >= 0 && c < told.carts;
    }

    private boolean areTwo(int a, int b) {
        return isCart(a) && isCart(b) && a != b;
    }

    private boolean isCell(int k) {
        return k >= 0 && k < told.cells;
    }

    private static boolean isFlag(int is) {
        return is == 0 || is == 1;
    }

    private static boolean isHour(int h) {
        return h >= 1 && h <= MOST_HOURS;
    }

    private void startAsTold() {
        live.begin(told);
        for (int i = 0; i < IMAGES; i++) {
            images[i].kept = false;
        }
        seen = 0;
        settle();
    }

    /** To be called after every change of the night: what is derived from it is held, not asked anew. */
    private void settle() {
        room.measure(live.night.rivers, told.cells);
        placed = room.setUp(live.night.row, live.night.many, live.night.axle, firsts);
        bestKnown = false;
    }

    private int groundNow(int k) {
        if (live.night.isRiver(k)) {
            return RIVER;
        }
        return told.ground[k] == HILL ? HILL : FLAT;
    }

    private int cellOf(int c) {
        return live.night.isLate(c) ? NONE : firsts[c];
    }

    private int cellsBetween(int a, int b) {
        int cellOfA = cellOf(a);
        int cellOfB = cellOf(b);
        if (cellOfA == NONE || cellOfB == NONE) {
            return NONE;
        }
        return gap(cellOfA, live.night.axle[a], cellOfB, live.night.axle[b]);
    }

    private static int gap(int oneCell, int oneWidth, int otherCell, int otherWidth) {
        return oneCell < otherCell ? otherCell - oneCell - oneWidth : oneCell - otherCell - otherWidth;
    }

    /** The first one has none ahead, so it never breaks. */
    private int breaks() {
        int bits = 0;
        for (int i = 1; i < placed; i++) {
            int ahead = live.night.row[i - 1];
            int c = live.night.row[i];
            if (firsts[c] != firsts[ahead] + live.night.axle[ahead]) {
                bits |= 1 << c;
            }
        }
        return bits;
    }

    private int nearTwos() {
        int near = 0;
        for (int a = 0; a < told.carts; a++) {
            for (int b = a + 1; b < told.carts; b++) {
                if (told.isFeud(a, b)) {
                    int cells = cellsBetween(a, b);
                    near += cells != NONE && cells < told.apart ? 1 : 0;
                }
            }
        }
        return near;
    }

    private int onHills() {
        int bits = 0;
        for (int c = 0; c < told.carts; c++) {
            int cell = cellOf(c);
            if (cell != NONE && hasHill(cell, live.night.axle[c])) {
                bits |= 1 << c;
            }
        }
        return bits;
    }

    private boolean hasHill(int cell, int width) {
        for (int k = cell; k < cell + width && k < told.cells; k++) {
            if (groundNow(k) == HILL) {
                return true;
            }
        }
        return false;
    }

    private int lastTaken() {
        for (int i = placed - 1; i >= 0; i--) {
            int c = live.night.row[i];
            if (!live.night.isLate(c)) {
                return firsts[c] + live.night.axle[c] - 1;
            }
        }
        return NONE;
    }

    /** Puts THE ORDER into otherRow with the carts of these bits behind all others. */
    private void partRow(int behind) {
        int filled = 0;
        for (int pass = 0; pass < 2; pass++) {
            for (int i = 0; i < live.night.many; i++) {
                int c = live.night.row[i];
                if ((behind >> c & 1) == pass) {
                    otherRow[filled] = c;
                    filled++;
                }
            }
        }
    }

    private boolean isQuick(int c, int h) {
        return told.hours(c) <= h;
    }

    /** The i-th by number of those in THE ORDER that are quick, or are not. */
    private int ithOfPace(int h, boolean quick, int i) {
        int left = i;
        for (int c = 0; c < told.carts; c++) {
            if (isQuick(c, h) == quick && !live.night.isLost(c)) {
                if (left == 0) {
                    return c;
                }
                left--;
            }
        }
        return NONE;
    }

    private boolean allSeenIn(int[] row) {
        for (int s = 0; s < seen; s++) {
            if (!standsRightAhead(row, seenAhead[s], seenBehind[s])) {
                return false;
            }
        }
        return true;
    }

    private boolean standsRightAhead(int[] row, int a, int b) {
        for (int i = 1; i < live.night.many; i++) {
            if (row[i - 1] == a && row[i] == b) {
                return true;
            }
        }
        return false;
    }

    /** Of TENTHS to the power of how many are in THE ORDER. */
    private int waysToStandAt(int c, int k, int x) {
        Night night = live.night;
        int ways = 0;
        for (int chosen = 0; chosen < 1 << night.many; chosen++) {
            int lateMany = Integer.bitCount(chosen);
            int weight = power(x, lateMany) * power(TENTHS - x, night.many - lateMany);
            if (weight > 0) {
                partRow(night.cartsAt(chosen));
                room.setUp(otherRow, night.many, night.axle, otherFirsts);
                ways += otherFirsts[c] == k ? weight : 0;
            }
        }
        return ways;
    }

    private static int power(int base, int times) {
        int product = 1;
        for (int i = 0; i < times; i++) {
            product *= base;
        }
        return product;
    }

    private static int commonDivisor(int one, int other) {
        int a = one;
        int b = other;
        for (int step = 0; step < MOST_STEPS && b > 0; step++) {
            int rest = a % b;
            a = b;
            b = rest;
        }
        return a;
    }

    private int markOfCart(int c) {
        traced += 1;
        return live.night.axle[c];
    }

    private int markOfChurch(int c) {
        traced += 10;
        return markOfCart(c) + told.pace[c];
    }

    private int markOfBaker(int c) {
        traced += 100;
        int cell = cellOf(c);
        return markOfCart(c) - (cell == NONE ? 0 : cell);
    }

    private int markOfMill(int c) {
        traced += 1000;
        return markOfChurch(c) * 2;
    }

    private int markOfDyer(int c) {
        traced += 10000;
        return markOfBaker(c) + Integer.bitCount(told.feuds[c]);
    }

    private int markOfGuest(int c) {
        traced += 100000;
        return markOfCart(c) + Integer.bitCount(breaks());
    }

    /** What a text told. It does not change until another text is read. */
    private static final class Told {
        private final int[] axle = new int[MOST_CARTS];
        private final int[] pace = new int[MOST_CARTS];
        private final int[] feuds = new int[MOST_CARTS];
        private final int[] ground = new int[MOST_CELLS];
        private int carts;
        private int cells;
        private int apart;
        private int miles;

        private Told() {
            empty();
        }

        private void empty() {
            carts = 0;
            cells = 0;
            apart = 4;
            miles = 9;
        }

        private void become(Told other) {
            for (int c = 0; c < other.carts; c++) {
                axle[c] = other.axle[c];
                pace[c] = other.pace[c];
                feuds[c] = other.feuds[c];
            }
            for (int k = 0; k < other.cells; k++) {
                ground[k] = other.ground[k];
            }
            carts = other.carts;
            cells = other.cells;
            apart = other.apart;
            miles = other.miles;
        }

        private void addCart(int width, int speed) {
            axle[carts] = width;
            pace[carts] = speed;
            feuds[carts] = 0;
            carts++;
        }

        private void addFeud(int a, int b) {
            feuds[a] |= 1 << b;
            feuds[b] |= 1 << a;
        }

        private void addCell(int what) {
            ground[cells] = what;
            cells++;
        }

        private boolean isFeud(int a, int b) {
            return (feuds[a] >> b & 1) == 1;
        }

        private int hours(int c) {
            int speed = pace[c];
            return speed < 1 ? MOST_HOURS : (miles + speed - 1) / speed;
        }

        private long riverBits() {
            long bits = 0;
            for (int k = 0; k < cells; k++) {
                if (ground[k] == RIVER) {
                    bits |= 1L << k;
                }
            }
            return bits;
        }
    }

    /** THE TEXT, and the reading of it, token by token. */
    private static final class Text {
        private static final int LETTER = 0, NUMBER = 1, SEMICOLON = 2, END = 3, BROKEN = 4;
        private static final int NO_FAULT_YET = -10;
        private static final int LARGEST = 99;

        private final int[] bytes = new int[MOST_BYTES];
        private int length;
        private int at;
        private int start;
        private int kind;
        private int value;
        private boolean apartTold;
        private boolean milesTold;

        private boolean add(int b) {
            if (length >= MOST_BYTES) {
                return false;
            }
            bytes[length] = b;
            length++;
            return true;
        }

        private void drop() {
            length = 0;
        }

        /** How many items there are; at a fault, the token read last is the one that can't stand there. */
        private int readInto(Told told) {
            told.empty();
            apartTold = false;
            milesTold = false;
            at = 0;
            int items = 0;
            readToken();
            while (kind != END && items < MOST_BYTES) {
                if (!readItem(told)) {
                    return NO_FAULT_YET - start;
                }
                items++;
                readToken();
            }
            return items;
        }

        private boolean readItem(Told told) {
            if (kind != LETTER) {
                return false;
            }
            switch (value) {
                case 'c':
                    return readCart(told);
                case 'q':
                    return readFeud(told);
                case 'd':
                    return readApart(told);
                case 'm':
                    return readMiles(told);
                case 'g':
                    return readGround(told);
                default:
                    return false;
            }
        }

        private boolean readCart(Told told) {
            if (told.carts >= MOST_CARTS || !readNumber(1, WIDEST)) {
                return false;
            }
            int width = value;
            if (!readNumber(1, FASTEST)) {
                return false;
            }
            told.addCart(width, value);
            return readSemicolon();
        }

        private boolean readFeud(Told told) {
            if (!readNumber(0, told.carts - 1)) {
                return false;
            }
            int a = value;
            if (!readNumber(0, told.carts - 1) || value == a) {
                return false;
            }
            told.addFeud(a, value);
            return readSemicolon();
        }

        private boolean readApart(Told told) {
            if (apartTold || !readNumber(1, FARTHEST_APART)) {
                return false;
            }
            apartTold = true;
            told.apart = value;
            return readSemicolon();
        }

        private boolean readMiles(Told told) {
            if (milesTold || !readNumber(1, MOST_MILES)) {
                return false;
            }
            milesTold = true;
            told.miles = value;
            return readSemicolon();
        }

        private boolean readGround(Told told) {
            if (told.cells > 0) {
                return false;
            }
            readToken();
            while (told.cells < MOST_CELLS && groundOfToken() != NONE) {
                told.addCell(groundOfToken());
                readToken();
            }
            return told.cells > 0 && kind == SEMICOLON;
        }

        private int groundOfToken() {
            if (kind != LETTER) {
                return NONE;
            }
            switch (value) {
                case 'f':
                    return FLAT;
                case 'h':
                    return HILL;
                case 'r':
                    return RIVER;
                default:
                    return NONE;
            }
        }

        private boolean readNumber(int lowest, int highest) {
            readToken();
            return kind == NUMBER && value >= lowest && value <= highest;
        }

        private boolean readSemicolon() {
            readToken();
            return kind == SEMICOLON;
        }

        private void readToken() {
            while (at < length && bytes[at] == ' ') {
                at++;
            }
            start = at;
            if (at >= length) {
                kind = END;
                return;
            }
            value = bytes[at];
            if (value >= '0' && value <= '9') {
                readDigits();
                return;
            }
            at++;
            if (value >= 'a' && value <= 'z') {
                kind = LETTER;
            } else {
                kind = value == ';' ? SEMICOLON : BROKEN;
            }
        }

        private void readDigits() {
            value = 0;
            while (at < length && bytes[at] >= '0' && bytes[at] <= '9') {
                // One too large stays as it is: a row of digits may be far longer than an int holds.
                if (value <= LARGEST) {
                    value = value * 10 + bytes[at] - '0';
                }
                at++;
            }
            boolean zeroAhead = bytes[start] == '0' && at - start > 1;
            kind = zeroAhead || value > LARGEST ? BROKEN : NUMBER;
        }
    }

    /** All that can be undone, but for what may be undone itself. A lost cart is one out of the row. */
    private static final class Night {
        private final int[] row = new int[MOST_CARTS];
        private final int[] axle = new int[MOST_CARTS];
        private int many;
        private int late;
        private long rivers;

        private void begin(Told told) {
            for (int c = 0; c < told.carts; c++) {
                row[c] = c;
                axle[c] = told.axle[c];
            }
            many = told.carts;
            late = 0;
            rivers = told.riverBits();
        }

        private void become(Night other) {
            for (int i = 0; i < MOST_CARTS; i++) {
                row[i] = other.row[i];
                axle[i] = other.axle[i];
            }
            many = other.many;
            late = other.late;
            rivers = other.rivers;
        }

        private int placeOf(int c) {
            for (int i = 0; i < many; i++) {
                if (row[i] == c) {
                    return i;
                }
            }
            return NONE;
        }

        private boolean isLost(int c) {
            return placeOf(c) == NONE;
        }

        private boolean isLate(int c) {
            return (late >> c & 1) == 1;
        }

        private void setLate(int c, boolean is) {
            late = is ? late | 1 << c : late & ~(1 << c);
        }

        private boolean isRiver(int k) {
            return (rivers >> k & 1) == 1;
        }

        private void takeOut(int c) {
            int left = 0;
            for (int i = 0; i < many; i++) {
                if (row[i] != c) {
                    row[left] = row[i];
                    left++;
                }
            }
            many = left;
        }

        private void addBehind(int c) {
            if (many < MOST_CARTS) {
                row[many] = c;
                many++;
            }
        }

        private void turnAbout() {
            for (int i = 0; i < many / 2; i++) {
                int swapped = row[i];
                row[i] = row[many - 1 - i];
                row[many - 1 - i] = swapped;
            }
        }

        private int widthOfAll() {
            int sum = 0;
            for (int i = 0; i < many; i++) {
                sum += axle[row[i]];
            }
            return sum;
        }

        /** The bits of the carts that stand at the places of these bits. */
        private int cartsAt(int places) {
            int bits = 0;
            for (int i = 0; i < many; i++) {
                if ((places >> i & 1) == 1) {
                    bits |= 1 << row[i];
                }
            }
            return bits;
        }
    }

    /** A night and what may be undone of it: what an image keeps. */
    private static final class Scene {
        private final Night night = new Night();
        private final Night[] past = new Night[MOST_PAST];
        private int pastMany;
        private boolean kept;

        private Scene() {
            for (int i = 0; i < MOST_PAST; i++) {
                past[i] = new Night();
            }
        }

        private void begin(Told told) {
            night.begin(told);
            pastMany = 0;
        }

        private void become(Scene other) {
            night.become(other.night);
            for (int i = 0; i < other.pastMany; i++) {
                past[i].become(other.past[i]);
            }
            pastMany = other.pastMany;
        }

        private void remember() {
            if (pastMany >= MOST_PAST) {
                loseOldest();
            }
            past[pastMany].become(night);
            pastMany++;
        }

        private void loseOldest() {
            Night oldest = past[0];
            for (int i = 1; i < MOST_PAST; i++) {
                past[i - 1] = past[i];
            }
            past[MOST_PAST - 1] = oldest;
            pastMany = MOST_PAST - 1;
        }

        private boolean recall() {
            if (pastMany < 1) {
                return false;
            }
            pastMany--;
            night.become(past[pastMany]);
            return true;
        }
    }

    /** Where there is room between the rivers, found once for each width and each cell. */
    private static final class Room {
        private final int[][] firstFrom = new int[WIDEST + 1][MOST_CELLS + 1];
        private int cells;

        private void measure(long rivers, int cellsNow) {
            cells = cellsNow;
            for (int width = 1; width <= WIDEST; width++) {
                firstFrom[width][cells] = NONE;
            }
            int dry = 0;
            for (int k = cells - 1; k >= 0; k--) {
                dry = (rivers >> k & 1) == 1 ? 0 : dry + 1;
                for (int width = 1; width <= WIDEST; width++) {
                    firstFrom[width][k] = dry >= width ? k : firstFrom[width][k + 1];
                }
            }
        }

        /** The first cell, from this one on, with so many side by side that are no river. */
        private int firstFor(int width, int from) {
            if (width < 1 || width > WIDEST || from < 0 || from > cells) {
                return NONE;
            }
            return firstFrom[width][from];
        }

        /** Fills in the first cell of each cart's cells or gap: how many are not out. */
        private int setUp(int[] row, int many, int[] axle, int[] firsts) {
            for (int c = 0; c < MOST_CARTS; c++) {
                firsts[c] = NONE;
            }
            int from = 0;
            for (int i = 0; i < many; i++) {
                int c = row[i];
                int first = firstFor(axle[c], from);
                if (first == NONE) {
                    return i;
                }
                firsts[c] = first;
                from = first + axle[c];
            }
            return many;
        }
    }

    /** Tries all orders, the first by numbers first. */
    private static final class BestOrder {
        private final int[] row = new int[MOST_CARTS];
        private int stand;
        private int near;
        private int last;
        private final int[] tried = new int[MOST_CARTS];
        private final int[] firsts = new int[MOST_CARTS];
        private final Told told;
        private final Night night;
        private final Room room;

        private BestOrder(Told told, Night night, Room room) {
            this.told = told;
            this.night = night;
            this.room = room;
        }

        private void search() {
            stand = -1;
            int carts = 0;
            for (int i = 0; i < night.many; i++) {
                carts |= 1 << night.row[i];
            }
            tryAllBehind(0, carts, 0, 0, night.widthOfAll());
        }

        /** Tries all that may follow so many that stand already, ahead of the cell from. */
        private void tryAllBehind(int depth, int left, int from, int nearThen, int widthLeft) {
            if (isHopeless(nearThen, from + widthLeft - 1)) {
                return;
            }
            for (int c = 0; c < told.carts && depth < MOST_CARTS; c++) {
                int first = (left >> c & 1) == 1 ? room.firstFor(night.axle[c], from) : NONE;
                if (first != NONE) {
                    firsts[c] = first;
                    tryBehind(depth, left, c, nearThen, widthLeft);
                }
            }
            // If one more found room, more stand in the best one known: this is better only if none did.
            if (isBetter(depth, nearThen, from - 1)) {
                take(depth, left, nearThen, from - 1);
            }
        }

        private void tryBehind(int depth, int left, int c, int nearThen, int widthLeft) {
            tried[depth] = c;
            int width = night.axle[c];
            int nearToo = nearThen + nearAhead(depth, c);
            tryAllBehind(depth + 1, left & ~(1 << c), firsts[c] + width, nearToo, widthLeft - width);
        }

        /** All stand in the best one known, and no order that goes on so can be better. */
        private boolean isHopeless(int nearThen, int lowestLast) {
            return stand == night.many && !isBetter(stand, nearThen, lowestLast);
        }

        private boolean isBetter(int standThen, int nearThen, int lastThen) {
            if (standThen != stand) {
                return standThen > stand;
            }
            return nearThen != near ? nearThen < near : lastThen < last;
        }

        private void take(int depth, int left, int nearThen, int lastThen) {
            stand = depth;
            near = nearThen;
            last = lastThen;
            int filled = depth;
            System.arraycopy(tried, 0, row, 0, depth);
            for (int c = 0; c < told.carts && filled < MOST_CARTS; c++) {
                if ((left >> c & 1) == 1) {
                    row[filled] = c;
                    filled++;
                }
            }
        }

        private int nearAhead(int depth, int c) {
            int sum = 0;
            for (int i = 0; i < depth; i++) {
                int other = tried[i];
                if (told.isFeud(c, other)) {
                    sum += firsts[c] - firsts[other] - night.axle[other] < told.apart ? 1 : 0;
                }
            }
            return sum;
        }
    }

    /**
     * The fewest rivers to bridge. Who stands at the first room there is never leaves less room
     * behind, so nobody is out if the carts fit in their order at any cells.
     */
    private static final class Bridges {
        private static final int TOO_MANY = MOST_BRIDGES + 1;

        private final int[] chosen = new int[MOST_BRIDGES];
        private int[] needed = new int[MOST_CELLS + 1];
        private int[] neededBehind = new int[MOST_CELLS + 1];

        /** How many; more than MOST_BRIDGES if it can't be done. */
        private int search(Night night, int cells) {
            int many = fewest(night, night.rivers, cells);
            if (many > MOST_BRIDGES) {
                return many;
            }
            long rivers = night.rivers;
            int found = 0;
            for (int k = 0; k < cells && found < many; k++) {
                long bridged = rivers & ~(1L << k);
                if (bridged != rivers && fewest(night, bridged, cells) < many - found) {
                    chosen[found] = k;
                    found++;
                    rivers = bridged;
                }
            }
            return many;
        }

        /** How many of these rivers have to be bridged. */
        private int fewest(Night night, long rivers, int cells) {
            for (int k = 0; k <= cells; k++) {
                neededBehind[k] = 0;
            }
            for (int i = night.many - 1; i >= 0; i--) {
                int width = night.axle[night.row[i]];
                for (int k = cells; k >= 0; k--) {
                    int here = TOO_MANY;
                    if (k + width <= cells) {
                        here = Math.min(riversIn(rivers, k, width) + neededBehind[k + width], needed[k + 1]);
                    }
                    needed[k] = Math.min(here, TOO_MANY);
                }
                int[] swapped = needed;
                needed = neededBehind;
                neededBehind = swapped;
            }
            return neededBehind[0];
        }

        private static int riversIn(long rivers, int cell, int width) {
            return Long.bitCount(rivers >> cell & (1L << width) - 1);
        }
    }
}
