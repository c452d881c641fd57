import java.math.BigInteger;
import java.util.ArrayList;
import java.util.Arrays;
import java.util.Collections;
import java.util.List;
import java.util.TreeSet;

/** The document once more, plainly: lists, and every order and every way tried out. */
final class NaiveTown {
    private static final int BAD = -1, STATE = -2, FULL = -3, NONE = -9, NO = -1000000;

    /** All that an undo brings back. */
    private static final class State {
        List<Integer> order = new ArrayList<>();
        TreeSet<Integer> late = new TreeSet<>();
        int[] axle = new int[0];
        char[] ground = new char[0];

        State copy() {
            State other = new State();
            other.order.addAll(order);
            other.late.addAll(late);
            other.axle = axle.clone();
            other.ground = ground.clone();
            return other;
        }
    }

    private String text = "";
    private int[] pace = new int[0];
    private boolean[][] feud = new boolean[0][0];
    private char[] told = new char[0];
    private int apart = 4;
    private int miles = 9;
    private State state = new State();
    private List<State> past = new ArrayList<>();
    private final State[] image = new State[2];
    private final List<List<State>> imagePast = new ArrayList<>(List.of(new ArrayList<>(), new ArrayList<>()));
    private final List<int[]> seen = new ArrayList<>();
    private long trace;

    // ---- reading

    private static final class Fault extends Exception {
        private static final long serialVersionUID = 1;
        final int place;

        Fault(int place) {
            this.place = place;
        }
    }

    private static final class Token {
        final String text;
        final int place;

        Token(String text, int place) {
            this.text = text;
            this.place = place;
        }
    }

    /** All tokens; what is none is a token of its own that nothing asks for. */
    private List<Token> tokens() {
        List<Token> found = new ArrayList<>();
        int at = 0;
        while (at < text.length()) {
            int end = at + 1;
            if (Character.digit(text.charAt(at), 10) >= 0) {
                while (end < text.length() && "0123456789".indexOf(text.charAt(end)) >= 0) {
                    end++;
                }
            }
            if (text.charAt(at) != ' ') {
                found.add(new Token(text.substring(at, end), at));
            }
            at = end;
        }
        found.add(new Token("", text.length()));
        return found;
    }

    private static int number(Token token, int low, int high) throws Fault {
        for (int n = low; n <= high; n++) {
            if (token.text.equals(String.valueOf(n))) {
                return n;
            }
        }
        throw new Fault(token.place);
    }

    private static void want(boolean is, Token token) throws Fault {
        if (!is) {
            throw new Fault(token.place);
        }
    }

    int town() {
        List<int[]> carts = new ArrayList<>();
        List<int[]> feuds = new ArrayList<>();
        StringBuilder cells = new StringBuilder();
        int[] apartMiles = {0, 0};
        int items = 0;
        try {
            List<Token> all = tokens();
            int i = 0;
            while (i < all.size() - 1) {
                Token first = all.get(i++);
                switch (first.text) {
                    case "c":
                        want(carts.size() < 7, first);
                        int axle = number(all.get(i++), 1, 6);
                        carts.add(new int[] {axle, number(all.get(i++), 1, 9)});
                        break;
                    case "q":
                        int a = number(all.get(i++), 0, carts.size() - 1);
                        int b = number(all.get(i++), 0, carts.size() - 1);
                        want(a != b, all.get(i - 1));
                        feuds.add(new int[] {a, b});
                        break;
                    case "d":
                        want(apartMiles[0] == 0, first);
                        apartMiles[0] = number(all.get(i++), 1, 9);
                        break;
                    case "m":
                        want(apartMiles[1] == 0, first);
                        apartMiles[1] = number(all.get(i++), 1, 60);
                        break;
                    case "g":
                        want(cells.length() == 0, first);
                        while (all.get(i).text.matches("[fhr]")) {
                            want(cells.length() < 40, all.get(i));
                            cells.append(all.get(i++).text);
                        }
                        want(cells.length() > 0, all.get(i));
                        break;
                    default:
                        throw new Fault(first.place);
                }
                want(all.get(i).text.equals(";"), all.get(i));
                i++;
                items++;
            }
        } catch (Fault fault) {
            return -10 - fault.place;
        }
        text = "";
        begin(carts, feuds, cells.toString().toCharArray());
        apart = apartMiles[0] == 0 ? 4 : apartMiles[0];
        miles = apartMiles[1] == 0 ? 9 : apartMiles[1];
        return items;
    }

    private void begin(List<int[]> carts, List<int[]> feuds, char[] cells) {
        state = new State();
        state.axle = new int[carts.size()];
        pace = new int[carts.size()];
        for (int c = 0; c < pace.length; c++) {
            state.axle[c] = carts.get(c)[0];
            pace[c] = carts.get(c)[1];
            state.order.add(c);
        }
        feud = new boolean[pace.length][pace.length];
        for (int[] two : feuds) {
            feud[two[0]][two[1]] = true;
            feud[two[1]][two[0]] = true;
        }
        told = cells;
        state.ground = cells.clone();
        past.clear();
        Arrays.fill(image, null);
        seen.clear();
    }

    int type(int c) {
        if (c < 0 || c > 255) {
            return BAD;
        }
        if (text.length() == 180) {
            return FULL;
        }
        text += (char) c;
        return text.length();
    }

    int clear() {
        int had = text.length();
        text = "";
        return had;
    }

    // ---- setting up

    private boolean noCart(int c) {
        return c < 0 || c >= pace.length;
    }

    private boolean noCell(int k) {
        return k < 0 || k >= told.length;
    }

    /** The first cell of each in this order, NONE from the first one on that is out. */
    private static int[] setUp(List<Integer> order, int[] axle, char[] ground) {
        int[] found = new int[axle.length];
        Arrays.fill(found, NONE);
        int from = 0;
        for (int c : order) {
            int k = from;
            while (k + axle[c] <= ground.length && new String(ground, k, axle[c]).indexOf('r') >= 0) {
                k++;
            }
            if (k + axle[c] > ground.length) {
                break;
            }
            found[c] = k;
            from = k + axle[c];
        }
        return found;
    }

    private int[] setUpNow() {
        return setUp(state.order, state.axle, state.ground);
    }

    private int cell(int c) {
        return state.late.contains(c) ? NONE : setUpNow()[c];
    }

    private int near(int[] cells) {
        int sum = 0;
        for (int a = 0; a < pace.length; a++) {
            for (int b = 0; b < pace.length; b++) {
                if (feud[a][b] && cells[a] != NONE && cells[b] != NONE && cells[a] < cells[b]
                    && cells[b] - (cells[a] + state.axle[a]) < apart) {
                    sum++;
                }
            }
        }
        return sum;
    }

    private int last(int[] cells) {
        int last = NONE;
        for (int c = 0; c < cells.length; c++) {
            if (cells[c] != NONE) {
                last = Math.max(last, cells[c] + state.axle[c] - 1);
            }
        }
        return last;
    }

    private int[] cellsNow() {
        int[] cells = new int[pace.length];
        for (int c = 0; c < cells.length; c++) {
            cells[c] = cell(c);
        }
        return cells;
    }

    private static int bits(Iterable<Integer> carts) {
        int bits = 0;
        for (int c : carts) {
            bits |= 1 << c;
        }
        return bits;
    }

    private TreeSet<Integer> breaking() {
        int[] firsts = setUpNow();
        TreeSet<Integer> found = new TreeSet<>();
        for (int i = 1; i < state.order.size(); i++) {
            int ahead = state.order.get(i - 1);
            int c = state.order.get(i);
            if (firsts[c] != NONE && firsts[ahead] + state.axle[ahead] < firsts[c]) {
                found.add(c);
            }
        }
        return found;
    }

    int cart(int c, int what) {
        if (noCart(c) || what < 0 || what > 6) {
            return BAD;
        }
        TreeSet<Integer> foes = new TreeSet<>();
        for (int other = 0; other < pace.length; other++) {
            if (feud[c][other]) {
                foes.add(other);
            }
        }
        int place = state.order.indexOf(c);
        int[] answers = {state.axle[c], pace[c], state.late.contains(c) ? 1 : 0, place < 0 ? 1 : 0, bits(foes),
            cell(c), place < 0 ? NONE : place};
        return answers[what];
    }

    int ground(int k) {
        return noCell(k) ? BAD : "fhr".indexOf(state.ground[k]);
    }

    int takes(int k) {
        if (noCell(k)) {
            return BAD;
        }
        for (int c = 0; c < pace.length; c++) {
            for (int i = 0; i < state.axle[c]; i++) {
                if (cell(c) != NONE && cell(c) + i == k) {
                    return c;
                }
            }
        }
        return NONE;
    }

    // ---- what is done

    private void remember() {
        past.add(state.copy());
        if (past.size() > 10) {
            past.remove(0);
        }
    }

    int late(int c, int is) {
        if (noCart(c) || is < 0 || is > 1) {
            return BAD;
        }
        if (!state.order.contains(c) || state.late.contains(c) == (is == 1)) {
            return STATE;
        }
        remember();
        if (is == 1) {
            state.late.add(c);
        } else {
            state.late.remove(c);
        }
        return cell(c);
    }

    private static List<Integer> nineOf(List<Integer> order, TreeSet<Integer> late) {
        List<Integer> ahead = new ArrayList<>(order);
        ahead.removeAll(late);
        List<Integer> behind = new ArrayList<>(order);
        behind.removeAll(ahead);
        ahead.addAll(behind);
        return ahead;
    }

    int nine() {
        remember();
        int went = state.late.size();
        state.order = nineOf(state.order, state.late);
        state.late.clear();
        return went;
    }

    int pin(int c) {
        if (noCart(c)) {
            return BAD;
        }
        int place = state.order.indexOf(c);
        if (place < 0 || place == state.order.size() - 1) {
            return STATE;
        }
        remember();
        state.order.add(state.order.remove(place));
        return cell(c);
    }

    int storm() {
        remember();
        Collections.reverse(state.order);
        return state.order.isEmpty() ? NONE : state.order.get(0);
    }

    int widens(int c) {
        if (noCart(c)) {
            return BAD;
        }
        if (state.axle[c] == 6) {
            return STATE;
        }
        remember();
        return ++state.axle[c];
    }

    int floods(int k, int is) {
        if (noCell(k) || is < 0 || is > 1) {
            return BAD;
        }
        if (is == 1 ? state.ground[k] == 'r' : state.ground[k] != 'r') {
            return STATE;
        }
        remember();
        state.ground[k] = is == 1 ? 'r' : told[k] == 'r' ? 'f' : told[k];
        return ground(k);
    }

    int loses(int c, int is) {
        if (noCart(c) || is < 0 || is > 1) {
            return BAD;
        }
        if (is == 1 ? !state.order.contains(c) : state.order.contains(c)) {
            return STATE;
        }
        remember();
        if (is == 1) {
            state.order.remove(Integer.valueOf(c));
            state.late.remove(c);
        } else {
            state.order.add(c);
        }
        return state.order.size();
    }

    int undo() {
        if (past.isEmpty()) {
            return STATE;
        }
        // An image may hold the same one.
        state = past.remove(past.size() - 1).copy();
        return past.size();
    }

    int now(int what) {
        int[] firsts = setUpNow();
        switch (what) {
            case 0:
                return state.order.size();
            case 1:
                return (int) state.order.stream().filter(c -> firsts[c] == NONE).count();
            case 2:
                return bits(breaking());
            case 3:
                return near(cellsNow());
            case 4:
                TreeSet<Integer> high = new TreeSet<>();
                for (int k = 0; k < told.length; k++) {
                    if (state.ground[k] == 'h' && takes(k) != NONE) {
                        high.add(takes(k));
                    }
                }
                return bits(high);
            case 5:
                return last(cellsNow());
            case 6:
                return state.order.stream().mapToInt(c -> state.axle[c]).sum();
            case 7:
                return bits(state.late);
            default:
                return BAD;
        }
    }

    int order(int i) {
        return i < 0 || i >= state.order.size() ? BAD : state.order.get(i);
    }

    // ---- how it stands

    int between(int a, int b) {
        if (noCart(a) || noCart(b) || a == b) {
            return BAD;
        }
        if (cell(a) == NONE || cell(b) == NONE) {
            return NONE;
        }
        int low = cell(a) < cell(b) ? a : b;
        return cell(a + b - low) - (cell(low) + state.axle[low]);
    }

    int windward(int a, int b) {
        if (noCart(a) || noCart(b) || a == b) {
            return BAD;
        }
        if (cell(a) == NONE || cell(b) == NONE) {
            return NONE;
        }
        return cell(a) < cell(b) ? 1 : 0;
    }

    // ---- how it should

    /** All orders of these, the first by numbers first. */
    private static List<List<Integer>> orders(List<Integer> carts) {
        if (carts.isEmpty()) {
            return List.of(List.of());
        }
        List<Integer> sorted = new ArrayList<>(carts);
        Collections.sort(sorted);
        List<List<Integer>> all = new ArrayList<>();
        for (Integer c : sorted) {
            List<Integer> others = new ArrayList<>(sorted);
            others.remove(c);
            for (List<Integer> behind : orders(others)) {
                List<Integer> order = new ArrayList<>();
                order.add(c);
                order.addAll(behind);
                all.add(order);
            }
        }
        return all;
    }

    int best(int i) {
        if (i < -3 || i > 6) {
            return BAD;
        }
        List<Integer> best = null;
        int[] value = null;
        for (List<Integer> order : orders(state.order)) {
            int[] cells = setUp(order, state.axle, state.ground);
            int[] tried = {(int) -Arrays.stream(cells).filter(k -> k != NONE).count(), near(cells), last(cells)};
            if (value == null || Arrays.compare(tried, value) < 0) {
                value = tried;
                best = order;
            }
        }
        if (i >= 0) {
            return i < best.size() ? best.get(i) : NONE;
        }
        return i == -1 ? -value[0] : value[-i - 1];
    }

    int ropes(int what) {
        if (what < 0 || what > 3) {
            return BAD;
        }
        for (int many = 0; many <= 3; many++) {
            List<Integer> way = bridged(state.ground, 0, many);
            if (way != null) {
                return what == 0 ? many : what <= many ? way.get(what - 1) : NONE;
            }
        }
        return NONE;
    }

    /** The first way to bridge just so many rivers from here on, or null. */
    private List<Integer> bridged(char[] ground, int from, int many) {
        if (many == 0) {
            int[] firsts = setUp(state.order, state.axle, ground);
            return state.order.stream().allMatch(c -> firsts[c] != NONE) ? new ArrayList<>() : null;
        }
        for (int k = from; k < ground.length; k++) {
            if (ground[k] == 'r') {
                char[] other = ground.clone();
                other[k] = 'f';
                List<Integer> way = bridged(other, k + 1, many - 1);
                if (way != null) {
                    way.add(0, k);
                    return way;
                }
            }
        }
        return null;
    }

    private int inBy(List<Integer> order, int h) {
        int arrives = 0;
        int in = 0;
        for (int c : order) {
            int hours = miles / pace[c] + (miles % pace[c] == 0 ? 0 : 1);
            arrives = Math.max(arrives, hours);
            in += arrives <= h ? 1 : 0;
        }
        return in;
    }

    int dark(int h) {
        return h < 1 || h > 60 ? BAD : inBy(state.order, h);
    }

    int soon(int h, int i) {
        if (h < 1 || h > 60 || i < -1 || i > 6) {
            return BAD;
        }
        List<Integer> best = null;
        for (List<Integer> order : orders(state.order)) {
            if (best == null || inBy(order, h) > inBy(best, h)) {
                best = order;
            }
        }
        return i == -1 ? inBy(best, h) : i < best.size() ? best.get(i) : NONE;
    }

    // ---- what was seen, odds

    int saw(int a, int b) {
        if (noCart(a) || noCart(b) || a == b) {
            return BAD;
        }
        if (seen.size() == 6) {
            return FULL;
        }
        seen.add(new int[] {a, b});
        return seen.size();
    }

    int forget() {
        int had = seen.size();
        seen.clear();
        return had;
    }

    private boolean fits(List<Integer> order) {
        for (int[] two : seen) {
            int a = order.indexOf(two[0]);
            int b = order.indexOf(two[1]);
            if (a < 0 || b < 0 || b != a + 1) {
                return false;
            }
        }
        return true;
    }

    int who() {
        int bits = fits(state.order) ? 128 : 0;
        for (Integer c : state.order) {
            List<Integer> order = new ArrayList<>(state.order);
            order.remove(c);
            order.add(c);
            bits |= fits(order) ? 1 << c : 0;
        }
        return bits;
    }

    int odds(int c, int k, int x, int what) {
        if (noCart(c) || noCell(k) || x < 0 || x > 10 || what < 0 || what > 1) {
            return BAD;
        }
        BigInteger upper = ways(c, k, x, 0, new TreeSet<>());
        BigInteger lower = BigInteger.TEN.pow(state.order.size());
        return (what == 0 ? upper : lower).divide(upper.gcd(lower)).intValueExact();
    }

    private BigInteger ways(int c, int k, int x, int i, TreeSet<Integer> late) {
        if (i == state.order.size()) {
            boolean is = setUp(nineOf(state.order, late), state.axle, state.ground)[c] == k;
            return is ? BigInteger.ONE : BigInteger.ZERO;
        }
        BigInteger there = ways(c, k, x, i + 1, late).multiply(BigInteger.valueOf(10 - x));
        TreeSet<Integer> more = new TreeSet<>(late);
        more.add(state.order.get(i));
        return there.add(ways(c, k, x, i + 1, more).multiply(BigInteger.valueOf(x)));
    }

    // ---- kinds, images

    private class Cart {
        int of(int c) {
            trace += 1;
            return state.axle[c];
        }
    }

    private class Church extends Cart {
        @Override
        int of(int c) {
            trace += 10;
            return super.of(c) + pace[c];
        }
    }

    private class Baker extends Cart {
        @Override
        int of(int c) {
            trace += 100;
            return super.of(c) - Math.max(cell(c), 0);
        }
    }

    private final class Mill extends Church {
        @Override
        int of(int c) {
            trace += 1000;
            return super.of(c) * 2;
        }
    }

    private final class Dyer extends Baker {
        @Override
        int of(int c) {
            trace += 10000;
            return super.of(c) + Integer.bitCount(cart(c, 4));
        }
    }

    private final class Guest extends Cart {
        @Override
        int of(int c) {
            trace += 100000;
            return super.of(c) + breaking().size();
        }
    }

    int mark(int kind, int c) {
        if (kind < 0 || kind > 5 || noCart(c)) {
            return NO;
        }
        Cart[] kinds = {new Cart(), new Church(), new Baker(), new Mill(), new Dyer(), new Guest()};
        return kinds[kind].of(c);
    }

    int keep(int i) {
        if (i < 0 || i > 1) {
            return BAD;
        }
        image[i] = state.copy();
        imagePast.set(i, new ArrayList<>(past));
        return state.order.size();
    }

    int back(int i) {
        if (i < 0 || i > 1) {
            return BAD;
        }
        if (image[i] == null) {
            return STATE;
        }
        state = image[i].copy();
        past = new ArrayList<>(imagePast.get(i));
        return state.order.size();
    }

    int count(int what) {
        int[] answers = {pace.length, told.length, apart, miles, seen.size(), past.size(), text.length()};
        return what < 0 || what > 6 ? BAD : answers[what];
    }

    long trace() {
        return trace;
    }
}
