import java.util.ArrayDeque;
import java.util.ArrayList;
import java.util.Arrays;
import java.util.Deque;
import java.util.HashMap;
import java.util.HashSet;
import java.util.List;
import java.util.Map;
import java.util.NoSuchElementException;
import java.util.Set;
import java.util.TreeMap;

/**
 * The document once more, written as slowly and plainly as can be and apart from the class: every LOAD is
 * walked, every E is a tree. What both answer is compared by ModelTest.
 */
final class PlainModel {
    static final List<String> LANGUAGE = Arrays.asList("bend", "wide", "wind", "goods", "bag", "depot", "thief", "warm",
        "horse", "rope", "stone", "seed", "law", "lift", "pull", "or", "and", "not", "size", "height", "air", "hour",
        "gust", "slope");
    static final List<String> NAMES = Arrays.asList("size", "height", "air", "hour", "gust", "slope");

    static final class Fault extends RuntimeException {
        final int how;
        final int place;

        Fault(int how, int place) {
            this.how = how;
            this.place = place;
        }
    }

    static final class WorkError extends RuntimeException { }

    interface Tree {
        long work(Map<String, Long> names);
    }

    static long checked(long v) {
        if (v > 1000000000000L || v < -1000000000000L) {
            throw new WorkError();
        }
        return v;
    }

    static final class Told {
        List<String> bends = new ArrayList<>();
        List<int[]> bend = new ArrayList<>(); // height, wide, wind
        Map<Integer, Integer> depot = new TreeMap<>();
        Map<Integer, Integer> thief = new TreeMap<>();
        List<String> goods = new ArrayList<>();
        List<int[]> good = new ArrayList<>(); // weight, below, above
        List<String> bags = new ArrayList<>();
        List<int[]> bag = new ArrayList<>(); // size, many
        List<Integer> warm = new ArrayList<>();
        Set<String> once = new HashSet<>();
        Map<String, Tree> law = new HashMap<>();
        int strong = 40;
        int holds = 10;
        int rope = 10;
        int stone = 5;
        int seed = 0;
        int knots = 0;
        int lines = 0;
    }

    /** Recursive, by the rules of the grammar. */
    static final class Reader {
        final byte[] text;
        int next = 0;
        int place;
        String token; // "" at the end, null for none
        int open = 0;
        final Told told = new Told();

        Reader(byte[] text) {
            this.text = text;
        }

        void step() {
            while (next < text.length && (text[next] == 10 || text[next] == 32)) {
                next++;
            }
            place = next;
            if (next == text.length) {
                token = "";
                return;
            }
            char c = (char) (text[next] & 255);
            StringBuilder b = new StringBuilder();
            if (c >= 'a' && c <= 'z') {
                while (next < text.length && text[next] >= 'a' && text[next] <= 'z') {
                    b.append((char) text[next++]);
                }
                token = b.length() > 6 ? null : b.toString();
            } else if (c >= '0' && c <= '9') {
                while (next < text.length && text[next] >= '0' && text[next] <= '9') {
                    b.append((char) text[next++]);
                }
                token = b.toString();
            } else {
                next++;
                token = ";()+-*/<=>".indexOf(c) < 0 ? null : String.valueOf(c);
                if (next < text.length) {
                    String two = "" + c + (char) text[next];
                    if (two.equals("<=") || two.equals("<>") || two.equals(">=")) {
                        token = two;
                        next++;
                    }
                }
            }
        }

        Fault at(int how) {
            return new Fault(how, place);
        }

        boolean isNumber() {
            return token != null && !token.isEmpty() && Character.isDigit(token.charAt(0));
        }

        boolean is(String t) {
            return t.equals(token);
        }

        int number(int low, int high) {
            if (!isNumber()) {
                throw at(1);
            }
            java.math.BigInteger v = new java.math.BigInteger(token);
            if (v.compareTo(java.math.BigInteger.valueOf(low)) < 0 || v.compareTo(java.math.BigInteger.valueOf(high)) > 0) {
                throw at(2);
            }
            step();
            return v.intValue();
        }

        String name() {
            if (token == null || token.isEmpty() || token.charAt(0) < 'a' || LANGUAGE.contains(token)) {
                throw at(1);
            }
            return token;
        }

        Told all() {
            step();
            while (!is("")) {
                line();
                if (!is(";")) {
                    throw at(1);
                }
                told.lines++;
                step();
            }
            return told;
        }

        void newName(List<String> of) {
            if (of.contains(name())) {
                throw at(3);
            }
            of.add(token);
            step();
        }

        void line() {
            if (is("bend")) {
                if (told.bends.size() == 9) {
                    throw at(2);
                }
                step();
                newName(told.bends);
                int height = number(0, 99);
                int wide = 0;
                int wind = 0;
                if (is("wide")) {
                    wide = 1;
                    step();
                }
                if (is("wind")) {
                    step();
                    int sign = 1;
                    if (is("-")) {
                        sign = -1;
                        step();
                    }
                    wind = sign * number(0, 9);
                }
                told.bend.add(new int[] {height, wide, wind});
            } else if (is("goods")) {
                if (told.goods.size() == 6) {
                    throw at(2);
                }
                step();
                newName(told.goods);
                int w = number(1, 60);
                int b = number(0, 99);
                told.good.add(new int[] {w, b, number(0, 99)});
            } else if (is("bag")) {
                if (told.bags.size() == 3) {
                    throw at(2);
                }
                step();
                newName(told.bags);
                int s = number(1, 9);
                told.bag.add(new int[] {s, number(0, 3)});
            } else if (is("depot") || is("thief")) {
                Map<Integer, Integer> of = is("depot") ? told.depot : told.thief;
                int most = is("depot") ? 9 : 99;
                step();
                int bend = told.bends.indexOf(name());
                if (bend < 0) {
                    throw at(4);
                }
                if (of.containsKey(bend)) {
                    throw at(3);
                }
                step();
                of.put(bend, number(0, most));
            } else if (is("warm") || is("horse") || is("rope") || is("stone") || is("seed")) {
                once();
            } else if (is("law")) {
                step();
                if (!is("lift") && !is("pull")) {
                    throw at(1);
                }
                String kind = token;
                if (told.law.containsKey(kind)) {
                    throw at(3);
                }
                step();
                told.law.put(kind, e());
            } else {
                throw at(1);
            }
        }

        void once() {
            String word = token;
            if (!told.once.add(word)) {
                throw at(3);
            }
            step();
            switch (word) {
                case "warm":
                    told.warm.add(number(0, 9));
                    while (isNumber()) {
                        if (told.warm.size() == 24) {
                            throw at(2);
                        }
                        told.warm.add(number(0, 9));
                    }
                    break;
                case "horse":
                    told.strong = number(1, 199);
                    told.holds = number(0, 99);
                    break;
                case "rope": told.rope = number(0, 99); break;
                case "stone": told.stone = number(1, 20); break;
                default: told.seed = number(0, 99999); break;
            }
        }

        String knot() {
            if (told.knots == 64) {
                throw at(2);
            }
            told.knots++;
            String t = token;
            step();
            return t;
        }

        Tree e() {
            Tree left = a();
            while (is("or")) {
                knot();
                Tree l = left;
                Tree r = a();
                left = n -> {
                    long x = l.work(n);
                    long y = r.work(n);
                    return x != 0 || y != 0 ? 1 : 0;
                };
            }
            return left;
        }

        Tree a() {
            Tree left = b();
            while (is("and")) {
                knot();
                Tree l = left;
                Tree r = b();
                left = n -> {
                    long x = l.work(n);
                    long y = r.work(n);
                    return x != 0 && y != 0 ? 1 : 0;
                };
            }
            return left;
        }

        Tree b() {
            if (is("not")) {
                knot();
                Tree of = b();
                return n -> of.work(n) == 0 ? 1 : 0;
            }
            return c();
        }

        Tree c() {
            Tree l = s();
            if (is("<") || is("<=") || is("=") || is("<>") || is(">=") || is(">")) {
                String how = knot();
                Tree r = s();
                return n -> {
                    int d = Long.compare(l.work(n), r.work(n));
                    switch (how) {
                        case "<": return d < 0 ? 1 : 0;
                        case "<=": return d <= 0 ? 1 : 0;
                        case "=": return d == 0 ? 1 : 0;
                        case "<>": return d != 0 ? 1 : 0;
                        case ">=": return d >= 0 ? 1 : 0;
                        default: return d > 0 ? 1 : 0;
                    }
                };
            }
            return l;
        }

        Tree s() {
            Tree left = t();
            while (is("+") || is("-")) {
                boolean plus = knot().equals("+");
                Tree l = left;
                Tree r = t();
                left = n -> checked(plus ? l.work(n) + r.work(n) : l.work(n) - r.work(n));
            }
            return left;
        }

        Tree t() {
            Tree left = p();
            while (is("*") || is("/")) {
                boolean times = knot().equals("*");
                Tree l = left;
                Tree r = p();
                left = n -> {
                    java.math.BigInteger x = java.math.BigInteger.valueOf(l.work(n));
                    java.math.BigInteger y = java.math.BigInteger.valueOf(r.work(n));
                    if (!times && y.signum() == 0) {
                        throw new WorkError();
                    }
                    java.math.BigInteger z = times ? x.multiply(y) : x.divide(y);
                    if (z.bitLength() > 60) {
                        throw new WorkError();
                    }
                    return checked(z.longValue());
                };
            }
            return left;
        }

        Tree p() {
            if (is("(")) {
                if (open == 8) {
                    throw at(2);
                }
                open++;
                step();
                Tree in = e();
                if (!is(")")) {
                    throw at(1);
                }
                open--;
                step();
                return in;
            }
            if (isNumber()) {
                long v = told.knots == 64 ? 0 : peek();
                knot();
                return n -> v;
            }
            if (token != null && NAMES.contains(token)) {
                String name = knot();
                return n -> n.get(name);
            }
            throw at(1);
        }

        long peek() {
            if (token.replaceFirst("^0+", "").length() > 4) {
                throw at(2);
            }
            return Long.parseLong(token);
        }
    }

    static final class State implements Cloneable {
        int goods;
        int[] tied = new int[3];
        int stones;
        int bend;
        int hour;
        int state;
        long last;
        int[] depots = new int[9];

        State copy() {
            State s = new State();
            s.goods = goods;
            s.tied = tied.clone();
            s.stones = stones;
            s.bend = bend;
            s.hour = hour;
            s.state = state;
            s.last = last;
            s.depots = depots.clone();
            return s;
        }
    }

    private byte[] tape = new byte[0];
    private Told told = new Told();
    private int fault = 0;
    private int place = -1;
    private State cart = new State();
    private State image = null;
    private int imageKnown;
    private final Deque<State> past = new ArrayDeque<>();
    private final List<int[]> seen = new ArrayList<>();
    private int known = -1;
    // For tried().
    private boolean warm;
    private boolean calm;
    private boolean twice;

    int feed(int... five) {
        if (tape.length + 20 > 700) {
            return -1;
        }
        int n = tape.length;
        tape = Arrays.copyOf(tape, n + 20);
        for (int v : five) {
            for (int shift = 24; shift >= 0; shift -= 8) {
                tape[n++] = (byte) (v >>> shift);
            }
        }
        return n;
    }

    int text(int n) {
        if (n < 0 || n > tape.length) {
            return -2;
        }
        byte[] text = Arrays.copyOf(tape, n);
        tape = new byte[0];
        try {
            told = new Reader(text).all();
        } catch (Fault f) {
            fault = f.how;
            place = f.place;
            return -1;
        }
        fault = 0;
        place = -1;
        cart = new State();
        cart.last = told.seed;
        told.depot.forEach((b, d) -> cart.depots[b] = d);
        seen.clear();
        known = -1;
        image = null;
        past.clear();
        return told.lines;
    }

    int fault(int what) {
        return what == 0 ? fault : what == 1 ? place : -1;
    }

    int named(int what, int letters) {
        StringBuilder b = new StringBuilder();
        for (int shift = 25; shift >= 0; shift -= 5) {
            int l = letters >> shift & 31;
            b.append(l == 0 ? ' ' : (char) ('a' + l - 1));
        }
        String name = b.toString().stripTrailing();
        if (letters >>> 30 != 0) {
            return -1;
        }
        return what == 0 ? told.bends.indexOf(name) : what == 1 ? told.goods.indexOf(name)
            : what == 2 ? told.bags.indexOf(name) : -1;
    }

    int bends() {
        return told.bends.size();
    }

    boolean isBend(int b) {
        return b >= 0 && b < bends();
    }

    boolean isGoods(int g) {
        return g >= 0 && g < told.goods.size();
    }

    boolean isSort(int s) {
        return s >= 0 && s < told.bags.size();
    }

    static boolean isHour(int h) {
        return h >= 0 && h <= 23;
    }

    int height(int b) {
        return told.bend.get(b)[0];
    }

    int slope(int b) {
        return b == 0 ? 0 : Math.max(0, height(b) - height(b - 1));
    }

    int look(int b, int what) {
        if (!isBend(b)) {
            throw new IndexOutOfBoundsException();
        }
        switch (what) {
            case 0: case 1: case 2: return told.bend.get(b)[what];
            case 3: return cart.depots[b];
            case 4: return told.thief.getOrDefault(b, 0);
            case 5: return slope(b);
            default: throw new NoSuchElementException();
        }
    }

    int goods(int g, int what) {
        if (!isGoods(g) || what < 0 || what > 3) {
            return -1;
        }
        return what == 3 ? (cart.goods & 1 << g) != 0 ? 1 : 0 : told.good.get(g)[what];
    }

    int bag(int s, int what) {
        if (!isSort(s) || what < 0 || what > 2) {
            return -1;
        }
        return what == 2 ? cart.tied[s] : told.bag.get(s)[what];
    }

    long worked(String kind, int size, int b, int h) {
        Map<String, Long> names = new HashMap<>();
        names.put("size", (long) size);
        names.put("height", (long) height(b));
        names.put("air", warm ? 9L : h < told.warm.size() ? told.warm.get(h) : 5L);
        names.put("hour", (long) h);
        names.put("gust", calm ? 0L : Math.abs(told.bend.get(b)[2]));
        names.put("slope", (long) slope(b));
        if (!told.law.containsKey(kind)) {
            return Long.MIN_VALUE;
        }
        try {
            return told.law.get(kind).work(names);
        } catch (WorkError e) {
            return Long.MIN_VALUE;
        }
    }

    int liftAt(int s, int b, int h) {
        long v = worked("lift", told.bag.get(s)[0], b, h);
        return v == Long.MIN_VALUE ? told.bag.get(s)[0] * height(b) / 10 : (int) Math.min(99, Math.max(0, v));
    }

    int pullAt(int b, int h) {
        int strong = twice ? 2 * told.strong : told.strong;
        long v = worked("pull", strong, b, h);
        return v == Long.MIN_VALUE ? Math.max(0, strong - slope(b) / 2) : (int) Math.min(999, Math.max(0, v));
    }

    int netAt(State s, int b, int h) {
        int net = s.stones * told.stone;
        for (int g = 0; g < told.goods.size(); g++) {
            net += (s.goods >> g & 1) * told.good.get(g)[0];
        }
        for (int sort = 0; sort < told.bags.size(); sort++) {
            net -= s.tied[sort] * liftAt(sort, b, h);
        }
        return net;
    }

    int lift(int s, int b, int h) {
        return isSort(s) && isBend(b) && isHour(h) ? liftAt(s, b, h) : -1;
    }

    int pull(int b, int h) {
        return b != 0 && isBend(b) && isHour(h) ? pullAt(b, h) : -1;
    }

    int net(int b, int h) {
        return isBend(b) && isHour(h) ? netAt(cart, b, h) : Integer.MIN_VALUE;
    }

    long law(int what, int s, int b, int h) {
        if (!isBend(b) || !isHour(h) || what < 0 || what > 1 || what == 0 && !isSort(s) || what == 1 && b == 0) {
            return Long.MIN_VALUE;
        }
        return what == 0 ? worked("lift", told.bag.get(s)[0], b, h) : worked("pull", told.strong, b, h);
    }

    private void change() {
        past.push(cart.copy());
        if (past.size() > 20) {
            past.removeLast();
        }
    }

    boolean fixed() {
        return cart.bend != 0 || cart.state == 3;
    }

    boolean load(int g, boolean is) {
        if (!isGoods(g) || fixed() || is == (goods(g, 3) == 1)) {
            return false;
        }
        change();
        cart.goods = is ? cart.goods | 1 << g : cart.goods & ~(1 << g);
        return true;
    }

    boolean tie(int s, int n) {
        if (!isSort(s) || fixed() || n < 0 || n > told.bag.get(s)[1] || cart.tied[s] == n) {
            return false;
        }
        change();
        cart.tied[s] = n;
        return true;
    }

    boolean stones(int n) {
        if (n < 0 || n > 9 || fixed() || cart.stones == n) {
            return false;
        }
        change();
        cart.stones = n;
        return true;
    }

    boolean at(int h) {
        if (!isHour(h) || fixed() || cart.hour == h) {
            return false;
        }
        change();
        cart.hour = h;
        return true;
    }

    void hour(State s) {
        if (s.state == 1 || s.state == 3) {
            return;
        }
        if (netAt(s, s.bend, s.hour) < -told.holds) {
            s.state = 3;
            return;
        }
        s.hour = s.hour == 23 ? 0 : s.hour + 1;
        int net = netAt(s, s.bend + 1, s.hour);
        if (net > pullAt(s.bend + 1, s.hour)) {
            return;
        }
        s.bend++;
        if (net < -told.holds) {
            s.state = 3;
            return;
        }
        int thief = told.thief.getOrDefault(s.bend, 0);
        if (thief > 0) {
            s.last = (s.last * 1103515245L + 12345) % (1L << 31);
            if ((s.last >> 16) % 100 < thief) {
                for (int sort = 0; sort < 3; sort++) {
                    if (s.tied[sort] > 0) {
                        s.tied[sort]--;
                        break;
                    }
                }
            }
        }
        if (s.bend == bends() - 1) {
            s.state = 1;
        }
    }

    int go(int n) {
        if (n < 0 || n > 50 || bends() < 2) {
            return -1;
        }
        for (int i = 0; i < n; i++) {
            past.clear();
            hour(cart);
        }
        return cart.state == 3 ? -2 : cart.bend;
    }

    int trade(int n) {
        if (n < -9 || n > 9 || n == 0 || cart.bend == 0 || cart.state != 0) {
            return -1;
        }
        int then = cart.stones + n;
        int left = cart.depots[cart.bend] - n;
        if (then < 0 || then > 9 || left < 0) {
            return -1;
        }
        change();
        cart.stones = then;
        cart.depots[cart.bend] = Math.min(99, left);
        return then;
    }

    /** The BEND and how; one rope at each of the bits. */
    int[] way(State s, int hour, int ropes) {
        int h = hour;
        if (netAt(s, 0, h) < -told.holds - ((ropes & 1) != 0 ? told.rope : 0)) {
            return new int[] {0, 3};
        }
        for (int b = 0; b < bends() - 1; b++) {
            h = h == 23 ? 0 : h + 1;
            int net = netAt(s, b + 1, h);
            if (net > pullAt(b + 1, h)) {
                return new int[] {b, 2};
            }
            if (net < -told.holds - ((ropes >> b + 1 & 1) != 0 ? told.rope : 0)) {
                return new int[] {b + 1, 3};
            }
        }
        return new int[] {bends() - 1, 1};
    }

    int led(int h, int what) {
        return !isHour(h) || what < 0 || what > 1 || bends() < 2 ? -1 : way(cart, h, 0)[what];
    }

    int when() {
        int bits = 0;
        for (int h = 0; h < 24 && bends() >= 2; h++) {
            bits |= way(cart, h, 0)[1] == 1 ? 1 << h : 0;
        }
        return bits;
    }

    int span(int what) {
        int bits = when();
        int[] best = {-1, 0};
        for (int n = 24; n > 0 && best[1] == 0; n--) {
            for (int first = 0; first < 24 && best[1] == 0; first++) {
                boolean all = true;
                for (int i = 0; i < n; i++) {
                    all &= (bits >> (first + i) % 24 & 1) != 0;
                }
                if (all) {
                    best = new int[] {first, n};
                }
            }
        }
        return what == 0 || what == 1 ? best[what] : -1;
    }

    /** All LOADS by GOODS, BAGS, stones. */
    List<State> loads() {
        List<State> all = new ArrayList<>();
        int[] most = new int[3];
        for (int s = 0; s < told.bags.size(); s++) {
            most[s] = told.bag.get(s)[1];
        }
        for (int g = 0; g < 1 << told.goods.size(); g++) {
            for (int c = 0; c <= most[2]; c++) {
                for (int b = 0; b <= most[1]; b++) {
                    for (int a = 0; a <= most[0]; a++) {
                        for (int n = 0; n <= 9; n++) {
                            State s = new State();
                            s.goods = g;
                            s.tied = new int[] {a, b, c};
                            s.stones = n;
                            all.add(s);
                        }
                    }
                }
            }
        }
        return all;
    }

    static int bagBits(State s) {
        return s.tied[0] | s.tied[1] << 2 | s.tied[2] << 4;
    }

    int gain(State s) {
        int gain = 0;
        for (int g = 0; g < told.goods.size(); g++) {
            gain += (s.goods >> g & 1) * (told.good.get(g)[2] - told.good.get(g)[1]);
        }
        return gain;
    }

    int goodsWeight(State s) {
        int w = 0;
        for (int g = 0; g < told.goods.size(); g++) {
            w += (s.goods >> g & 1) * told.good.get(g)[0];
        }
        return w;
    }

    int most(int h, int what) {
        if (!isHour(h) || what < 0 || what > 3 || bends() < 2) {
            return -1;
        }
        int[] best = null;
        for (State s : loads()) {
            if (way(s, h, 0)[1] == 1) {
                int[] one = {-gain(s), s.stones, s.goods, bagBits(s)};
                if (best == null || Arrays.compare(one, best) < 0) {
                    best = one;
                }
            }
        }
        if (best == null) {
            return -2;
        }
        return what == 0 ? -best[0] : what == 1 ? best[2] : what == 2 ? best[3] : best[1];
    }

    /** Every choice of stones is walked; the best is the least by changes, then by stones behind each BEND. */
    int[] ballastPlan(int h) {
        int[] best = {Integer.MAX_VALUE};
        int[][] found = {best};
        walk(h, 0, cart.stones, 0, new int[bends() + 1], found);
        return found[0] == best ? null : found[0];
    }

    void walk(int h, int b, int stones, int changes, int[] plan, int[][] found) {
        if (changes > found[0][0]) {
            return;
        }
        if (b == bends() - 1) {
            plan[0] = changes;
            plan[b + 1] = stones;
            if (Arrays.compare(plan, found[0]) < 0) {
                found[0] = plan.clone();
            }
            return;
        }
        for (int then = 0; then <= 9; then++) {
            if (b > 0 && then > stones + cart.depots[b]) {
                continue;
            }
            State s = cart.copy();
            s.stones = then;
            int hour = (h + b) % 24;
            int next = (h + b + 1) % 24;
            int net = netAt(s, b + 1, next);
            if (netAt(s, b, hour) < -told.holds || net > pullAt(b + 1, next) || net < -told.holds) {
                continue;
            }
            plan[b + 1] = then;
            walk(h, b + 1, then, changes + (then != stones ? 1 : 0), plan, found);
        }
    }

    int ballast(int h) {
        if (!isHour(h) || bends() < 2) {
            return -1;
        }
        int[] plan = ballastPlan(h);
        return plan == null ? -2 : plan[0];
    }

    int behind(int h, int b) {
        if (!isHour(h) || !isBend(b) || bends() < 2) {
            return -1;
        }
        int[] plan = ballastPlan(h);
        return plan == null ? -2 : plan[b + 1];
    }

    int ropes(int h) {
        if (!isHour(h) || bends() < 2) {
            return -1;
        }
        int best = -2;
        for (int bits = 0; bits < 1 << bends(); bits++) {
            if (way(cart, h, bits)[1] == 1 && (best < 0 || Integer.bitCount(bits) < Integer.bitCount(best))) {
                best = bits;
            }
        }
        return best;
    }

    /** Where one is at an HOUR: its BEND, or -1. */
    static int place(int from, int h, int bends, boolean down) {
        int gone = h - from;
        return gone < 0 || gone >= bends ? -1 : down ? bends - 1 - gone : gone;
    }

    int[] meeting(int up, int down) {
        for (int h = 0; h <= 47; h++) {
            int a = place(up, h, bends(), false);
            int b = place(down, h, bends(), true);
            if (a >= 0 && a == b) {
                return new int[] {a, h};
            }
            int a2 = place(up, h + 1, bends(), false);
            int b2 = place(down, h + 1, bends(), true);
            if (a >= 0 && b >= 0 && a2 == b && b2 == a) {
                return new int[] {-2, h};
            }
        }
        return new int[] {-3, -3};
    }

    int meet(int up, int down, int what) {
        return !isHour(up) || !isHour(down) || what < 0 || what > 1 || bends() < 2 ? -1 : meeting(up, down)[what];
    }

    int waits(int up, int down) {
        if (!isHour(up) || !isHour(down) || bends() < 2) {
            return -1;
        }
        for (int w = 0; w <= 23; w++) {
            int m = meeting(up, down + w)[0];
            if (m == -3 || m >= 0 && told.bend.get(m)[1] == 1) {
                return w;
            }
        }
        return -2;
    }

    int worth(int g, int b) {
        if (!isGoods(g) || !isBend(b)) {
            return -1;
        }
        int[] good = told.good.get(g);
        int all = height(bends() - 1) - height(0);
        return all == 0 ? good[1] : good[1] + (good[2] - good[1]) * (height(b) - height(0)) / all;
    }

    int toll(int h) {
        if (!isHour(h) || bends() < 2) {
            return -1;
        }
        List<State> up = new ArrayList<>();
        for (State s : loads()) {
            if (way(s, h, 0)[1] == 1) {
                up.add(s);
            }
        }
        for (int price = 0; price <= 200; price++) {
            boolean pays = false;
            for (State s : up) {
                pays |= gain(s) - price * goodsWeight(s) > 0;
            }
            if (!pays) {
                return price;
            }
        }
        return -2;
    }

    int lands(int b) {
        if (!isBend(b)) {
            return Integer.MIN_VALUE;
        }
        int x = 10 * b;
        int y = height(b);
        while (y > 0) {
            y -= 7;
            int which = -1;
            for (int i = bends() - 1; i >= 0; i--) {
                if (height(i) <= y && (which < 0 || height(i) >= height(which))) {
                    which = i;
                }
            }
            x += which < 0 ? 0 : told.bend.get(which)[2];
        }
        return x;
    }

    int see(int b, int h, int low, int high) {
        if (!isBend(b) || !isHour(h) || low < -9999 || low > 9999 || high < -9999 || high > 9999 || high < low
            || seen.size() == 24) {
            return -1;
        }
        seen.add(new int[] {b, h, low, high});
        return seen.size() - 1;
    }

    int strike(int one) {
        if (one < 0 || one >= seen.size() || seen.size() == 24) {
            return -1;
        }
        seen.add(new int[] {one});
        return seen.size() - 1;
    }

    boolean known(int n) {
        if (n < -1 || n > seen.size()) {
            return false;
        }
        known = n;
        return true;
    }

    int knownBy() {
        return known < 0 ? seen.size() : known;
    }

    boolean struck(int i) {
        for (int j = i + 1; j < knownBy(); j++) {
            if (seen.get(j).length == 1 && seen.get(j)[0] == i && !struck(j)) {
                return true;
            }
        }
        return false;
    }

    List<State> fitting() {
        List<State> all = new ArrayList<>();
        List<int[]> so = new ArrayList<>();
        for (int i = 0; i < knownBy(); i++) {
            if (seen.get(i).length == 4 && !struck(i)) {
                so.add(seen.get(i));
            }
        }
        for (State s : loads()) {
            boolean is = true;
            for (int[] one : so) {
                int net = is ? netAt(s, one[0], one[1]) : 0;
                is = is && net >= one[2] && net <= one[3];
            }
            if (is) {
                all.add(s);
            }
        }
        return all;
    }

    int fits() {
        return fitting().size();
    }

    int fit(int k, int what) {
        if (k < 0 || what < 0 || what > 2) {
            return -1;
        }
        List<State> all = fitting();
        if (k >= all.size()) {
            return -2;
        }
        State s = all.get(k);
        return what == 0 ? s.goods : what == 1 ? bagBits(s) : s.stones;
    }

    int sure(int g) {
        if (!isGoods(g)) {
            return -1;
        }
        List<State> all = fitting();
        long with = all.stream().filter(s -> (s.goods >> g & 1) == 1).count();
        return all.isEmpty() ? -2 : with == all.size() ? 1 : with == 0 ? 0 : 2;
    }

    int chance(int seed) {
        if (seed < 0 || bends() < 2) {
            return -1;
        }
        int ups = 0;
        long last = seed;
        for (int i = 0; i < 10; i++) {
            State s = cart.copy();
            s.last = last;
            for (int h = 0; h < 30; h++) {
                hour(s);
            }
            last = s.last;
            ups += s.state == 1 ? 1 : 0;
        }
        return ups;
    }

    int tried(int what, int i, int h) {
        boolean such = what == 2 ? isGoods(i) : what == 3 ? isSort(i) : what >= 0 && what <= 5 && i == 0;
        if (!such || !isHour(h) || bends() < 2) {
            return -1;
        }
        State s = cart.copy();
        warm = what == 0;
        calm = what == 1;
        twice = what == 5;
        if (what == 2) {
            s.goods &= ~(1 << i);
        }
        if (what == 3) {
            s.tied[i] = 0;
        }
        if (what == 4) {
            s.stones = 0;
        }
        int end = way(s, h, 0)[0];
        warm = false;
        calm = false;
        twice = false;
        return end;
    }

    int undo() {
        if (past.isEmpty()) {
            return -1;
        }
        cart = past.pop();
        return past.size();
    }

    int keep() {
        image = cart.copy();
        imageKnown = known;
        return cart.hour;
    }

    int back() {
        if (image == null) {
            return -1;
        }
        cart = image.copy();
        known = imageKnown;
        past.clear();
        return cart.hour;
    }

    int count(int what) {
        int[] all = {bends(), told.goods.size(), told.bags.size(), told.knots, cart.hour, cart.bend, cart.state, seen.size(),
            knownBy(), past.size(), cart.stones, cart.goods, bagBits(cart), Arrays.stream(cart.depots).sum()};
        return what < 0 || what >= all.length ? -1 : all[what];
    }
}
