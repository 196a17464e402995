import java.util.NoSuchElementException;

/** A road told as a text, a cart that is led up it, and what can be asked of both. */
public final class UphillCarts {
    public static final int NONE = -1;

    private static final int NOT_SO = -2;
    private static final int NOT_AT_ALL = -3;

    private static final int TAPE = 700;
    private static final int HOURS = 24;
    private static final int BENDS = 9;
    private static final int GOODS = 6;
    private static final int SORTS = 3;
    private static final int STONES = 9;
    private static final int STONES_AT_DEPOT = 99;
    private static final int KNOTS = 64;
    private static final int OPEN_AT_ONCE = 8;
    private static final int SEEN = 24;
    private static final int UNDONE = 20;
    private static final int PRICES = 200;

    private static final int ALL_GOODS = 1 << GOODS;
    private static final int ALL_BAGS = 1 << 2 * SORTS;
    private static final int FAR = 1000000;

    private static final int ON_ITS_WAY = 0;
    private static final int UP = 1;
    private static final int STUCK = 2;
    private static final int LOST = 3;

    private static final long ERROR = Long.MIN_VALUE;
    private static final long GREATEST = 1000000000000L;

    private static final int CANT_STAND = 1;
    private static final int TOO_MUCH = 2;
    private static final int TOLD_ALREADY = 3;
    private static final int NOT_AHEAD = 4;

    // The kinds of tokens; the words of the language follow in the order of LANGUAGE.
    private static final int NO_TOKEN = 1;
    private static final int END = 2;
    private static final int NUMBER = 3;
    private static final int OWN_NAME = 4;
    private static final int SEMICOLON = 5;
    private static final int OPEN = 6;
    private static final int CLOSE = 7;
    private static final int PLUS = 8;
    private static final int MINUS = 9;
    private static final int TIMES = 10;
    private static final int OVER = 11;
    private static final int LESS = 12;
    private static final int AT_MOST = 13;
    private static final int EQUAL = 14;
    private static final int UNLIKE = 15;
    private static final int AT_LEAST = 16;
    private static final int MORE = 17;
    private static final int WORD = 18;
    private static final int BEND_WORD = WORD;
    private static final int GOODS_WORD = WORD + 1;
    private static final int BAG_WORD = WORD + 2;
    private static final int DEPOT_WORD = WORD + 3;
    private static final int THIEF_WORD = WORD + 4;
    private static final int WARM_WORD = WORD + 5;
    private static final int HORSE_WORD = WORD + 6;
    private static final int ROPE_WORD = WORD + 7;
    private static final int STONE_WORD = WORD + 8;
    private static final int SEED_WORD = WORD + 9;
    private static final int LAW_WORD = WORD + 10;
    private static final int WIDE_WORD = WORD + 11;
    private static final int WIND_WORD = WORD + 12;
    private static final int LIFT_WORD = WORD + 13;
    private static final int PULL_WORD = WORD + 14;
    private static final int OR_WORD = WORD + 15;
    private static final int AND_WORD = WORD + 16;
    private static final int NOT_WORD = WORD + 17;
    private static final int SIZE_WORD = WORD + 18;
    private static final int SLOPE_WORD = WORD + 23;
    private static final int WORDS = 24;
    private static final String LANGUAGE =
        "bend goods bag depot thief warm horse rope stone seed law wide wind lift pull or and not size height air hour gust slope ";

    // How fast a sign binds; an open '(' binds nothing.
    private static final int RANK_NONE = 0;
    private static final int RANK_OR = 1;
    private static final int RANK_AND = 2;
    private static final int RANK_NOT = 3;
    private static final int RANK_COMPARED = 4;
    private static final int RANK_SUM = 5;
    private static final int RANK_PRODUCT = 6;

    // What one step of the past holds: goods, bags, stones, hour, stones at the depot there.
    private static final int STEP = 5;

    private final byte[] tape;
    private int fed;
    private int fault;
    private int place;
    private final Parser parser;
    private Road road;
    private Road spare;
    private final Forces forces;
    private final Forces otherwise;
    private final Loads loads;
    private final Ballast weights;
    private final Seen seen;
    private final Cart cart;
    private final Cart image;
    private final Cart trial;
    private boolean imaged;
    private int imageKnownBy;
    private final int[] past;
    private int undoable;

    public UphillCarts() {
        tape = new byte[TAPE];
        place = NONE;
        road = new Road();
        spare = new Road();
        parser = new Parser(tape, spare);
        forces = new Forces(road);
        otherwise = new Forces(road);
        loads = new Loads(road);
        weights = new Ballast();
        seen = new Seen();
        cart = new Cart();
        image = new Cart();
        trial = new Cart();
        past = new int[UNDONE * STEP];
        begin();
    }

    private void begin() {
        forces.ofRoad(road, false, false, 1);
        cart.start(road);
        seen.forgetAll();
        imaged = false;
        undoable = 0;
    }

    public int feed(int a, int b, int c, int d, int e) {
        if (fed + 20 > TAPE) {
            return NONE;
        }
        addBytes(a);
        addBytes(b);
        addBytes(c);
        addBytes(d);
        addBytes(e);
        return fed;
    }

    private void addBytes(int four) {
        if (fed + 4 > TAPE) {
            return;
        }
        tape[fed] = (byte) (four >> 24);
        tape[fed + 1] = (byte) (four >> 16);
        tape[fed + 2] = (byte) (four >> 8);
        tape[fed + 3] = (byte) four;
        fed += 4;
    }

    public int text(int n) {
        if (n < 0 || n > fed) {
            return NOT_SO;
        }
        fed = 0;
        // A text with a fault must leave the old one as it is, so it is read into the spare road.
        boolean good = parser.parse(spare, n);
        fault = parser.fault;
        place = parser.place;
        if (!good) {
            return NONE;
        }
        Road old = road;
        road = spare;
        spare = old;
        begin();
        return road.lines;
    }

    public int fault(int what) {
        if (what == 0) {
            return fault;
        }
        return what == 1 ? place : NONE;
    }

    public int named(int what, int letters) {
        switch (what) {
            case 0: return road.findBend(letters);
            case 1: return road.findGoods(letters);
            case 2: return road.findSort(letters);
            default: return NONE;
        }
    }

    public int look(int bend, int what) throws IndexOutOfBoundsException, NoSuchElementException {
        if (!isBend(bend)) {
            throw new IndexOutOfBoundsException("no such bend");
        }
        Bend there = road.bendAt[bend];
        switch (what) {
            case 0: return there.height;
            case 1: return there.wide ? 1 : 0;
            case 2: return there.wind;
            case 3: return cart.depots[bend];
            case 4: return there.thief;
            case 5: return road.slopeTo(bend);
            default: throw new NoSuchElementException("no such what");
        }
    }

    public int goods(int goods, int what) {
        if (!isGoods(goods)) {
            return NONE;
        }
        Goods these = road.goodsAt[goods];
        switch (what) {
            case 0: return these.weight;
            case 1: return these.below;
            case 2: return these.above;
            case 3: return cart.goods >> goods & 1;
            default: return NONE;
        }
    }

    public int bag(int sort, int what) {
        if (!isSort(sort)) {
            return NONE;
        }
        switch (what) {
            case 0: return road.sizeOf[sort];
            case 1: return road.manyOf[sort];
            case 2: return cart.bags >> 2 * sort & 3;
            default: return NONE;
        }
    }

    public int lift(int sort, int bend, int hour) {
        if (!isSort(sort) || !isBend(bend) || !isHour(hour)) {
            return NONE;
        }
        return forces.lifted(sort, bend, hour);
    }

    public int pull(int bend, int hour) {
        if (bend == 0 || !isBend(bend) || !isHour(hour)) {
            return NONE;
        }
        return forces.pulled(bend, hour);
    }

    public int net(int bend, int hour) {
        if (!isBend(bend) || !isHour(hour)) {
            return Integer.MIN_VALUE;
        }
        return cart.weighs(road) - forces.bagsLift(cart.bags, bend, hour);
    }

    public long law(int what, int sort, int bend, int hour) {
        if (!isBend(bend) || !isHour(hour)) {
            return ERROR;
        }
        if (what == 0 && isSort(sort) && road.liftLaw.isTold()) {
            return forces.worked(road.liftLaw, road.sizeOf[sort], bend, hour);
        }
        if (what == 1 && bend > 0 && road.pullLaw.isTold()) {
            return forces.worked(road.pullLaw, road.strong, bend, hour);
        }
        return ERROR;
    }

    public boolean load(int goods, boolean is) {
        if (!isGoods(goods) || !canBeLoaded() || is == ((cart.goods >> goods & 1) == 1)) {
            return false;
        }
        remember();
        cart.goods ^= 1 << goods;
        return true;
    }

    public boolean tie(int sort, int n) {
        if (!isSort(sort) || !canBeLoaded() || n < 0 || n > road.manyOf[sort]) {
            return false;
        }
        int now = cart.bags >> 2 * sort & 3;
        if (n == now) {
            return false;
        }
        remember();
        cart.bags += (n - now) << 2 * sort;
        return true;
    }

    public boolean stones(int n) {
        if (n < 0 || n > STONES || !canBeLoaded() || n == cart.stones) {
            return false;
        }
        remember();
        cart.stones = n;
        return true;
    }

    public boolean at(int hour) {
        if (!isHour(hour) || !canBeLoaded() || hour == cart.hour) {
            return false;
        }
        remember();
        cart.hour = hour;
        return true;
    }

    public int go(int n) {
        if (n < 0 || n > 50 || !hasWays()) {
            return NONE;
        }
        if (n > 0) {
            undoable = 0;
        }
        for (int hour = 0; hour < n; hour++) {
            cart.hourGoesBy(road, forces);
        }
        return cart.state == LOST ? NOT_SO : cart.bend;
    }

    public int trade(int n) {
        if (n < -STONES || n > STONES || n == 0) {
            return NONE;
        }
        if (cart.bend == 0 || cart.state != ON_ITS_WAY) {
            return NONE;
        }
        int then = cart.stones + n;
        if (n > cart.depots[cart.bend] || then > STONES || then < 0) {
            return NONE;
        }
        remember();
        cart.stones = then;
        cart.depots[cart.bend] = Math.min(STONES_AT_DEPOT, cart.depots[cart.bend] - n);
        return then;
    }

    public int led(int hour, int what) {
        if (!isHour(hour) || what < 0 || what > 1 || !hasWays()) {
            return NONE;
        }
        int end = forces.wayFrom(hour, cart.weighs(road), cart.bags);
        return what == 0 ? end >> 2 : end & 3;
    }

    public int when() {
        return hoursUp();
    }

    private int hoursUp() {
        int hours = 0;
        if (!hasWays()) {
            return hours;
        }
        int weight = cart.weighs(road);
        for (int hour = 0; hour < HOURS; hour++) {
            if ((forces.wayFrom(hour, weight, cart.bags) & 3) == UP) {
                hours |= 1 << hour;
            }
        }
        return hours;
    }

    public int span(int what) {
        if (what < 0 || what > 1) {
            return NONE;
        }
        int hours = hoursUp();
        int first = NONE;
        int longest = 0;
        for (int hour = 0; hour < HOURS; hour++) {
            int row = rowFrom(hours, hour);
            if (row > longest) {
                longest = row;
                first = hour;
            }
        }
        return what == 0 ? first : longest;
    }

    private static int rowFrom(int hours, int first) {
        int row = 0;
        while (row < HOURS && (hours >> (first + row) % HOURS & 1) == 1) {
            row++;
        }
        return row;
    }

    public int most(int hour, int what) {
        if (!isHour(hour) || what < 0 || what > 3 || !hasWays()) {
            return NONE;
        }
        loads.leaveThoseUp(road, forces, hour);
        if (!loads.findBest()) {
            return NOT_SO;
        }
        switch (what) {
            case 0: return road.gainOf(loads.goods);
            case 1: return loads.goods;
            case 2: return loads.bags;
            default: return loads.stones;
        }
    }

    public int ballast(int hour) {
        if (!isHour(hour) || !hasWays()) {
            return NONE;
        }
        return weights.plan(road, forces, cart, hour);
    }

    public int behind(int hour, int bend) {
        if (!isHour(hour) || !isBend(bend) || !hasWays()) {
            return NONE;
        }
        if (weights.plan(road, forces, cart, hour) < 0) {
            return NOT_SO;
        }
        return weights.behind[bend];
    }

    public int ropes(int hour) {
        if (!isHour(hour) || !hasWays()) {
            return NONE;
        }
        int weight = cart.weighs(road);
        int tied = 0;
        for (int bend = 0; bend < road.bends; bend++) {
            int then = (hour + bend) % HOURS;
            int net = weight - forces.bagsLift(cart.bags, bend, then);
            if (bend > 0 && net > forces.pulled(bend, then)) {
                return NOT_SO;
            }
            if (net < -road.holds - road.rope) {
                return NOT_SO;
            }
            if (net < -road.holds) {
                tied |= 1 << bend;
            }
        }
        return tied;
    }

    public int meet(int up, int down, int what) {
        if (!isHour(up) || !isHour(down) || what < 0 || what > 1 || !hasWays()) {
            return NONE;
        }
        int where = meetingBend(up, down);
        if (what == 0 || where == NOT_AT_ALL) {
            return where;
        }
        return up + (down - up + road.bends - 1) / 2;
    }

    /** The BEND at which both are at one HOUR, or -2 BETWEEN, or -3. */
    private int meetingBend(int up, int down) {
        int last = road.bends - 1;
        // The one is at BEND b at up + b, the other at down + last - b: twice b is what lies between.
        int twice = down - up + last;
        if (twice < 0 || twice > 2 * last) {
            return NOT_AT_ALL;
        }
        return twice % 2 == 0 ? twice / 2 : NOT_SO;
    }

    public int waits(int up, int down) {
        if (!isHour(up) || !isHour(down) || !hasWays()) {
            return NONE;
        }
        for (int wait = 0; wait < HOURS; wait++) {
            int where = meetingBend(up, down + wait);
            if (where == NOT_AT_ALL || isBend(where) && road.bendAt[where].wide) {
                return wait;
            }
        }
        return NOT_SO;
    }

    public int worth(int goods, int bend) {
        if (!isGoods(goods) || !isBend(bend)) {
            return NONE;
        }
        Goods these = road.goodsAt[goods];
        int lowest = road.bendAt[0].height;
        int all = road.bendAt[road.bends - 1].height - lowest;
        if (all == 0) {
            return these.below;
        }
        return these.below + these.gain() * (road.bendAt[bend].height - lowest) / all;
    }

    public int toll(int hour) {
        if (!isHour(hour) || !hasWays()) {
            return NONE;
        }
        loads.leaveThoseUp(road, forces, hour);
        int price = loads.priceForNone();
        return price > PRICES ? NOT_SO : price;
    }

    public int lands(int bend) {
        if (!isBend(bend)) {
            return Integer.MIN_VALUE;
        }
        int far = 10 * bend;
        int high = road.bendAt[bend].height;
        while (high > 0) {
            high -= 7;
            far += road.windAt(high);
        }
        return far;
    }

    public int see(int bend, int hour, int low, int high) {
        if (!isBend(bend) || !isHour(hour) || low < -9999 || high > 9999 || high < low) {
            return NONE;
        }
        return seen.add(bend, hour, low, high);
    }

    public int strike(int seen) {
        return this.seen.addStrike(seen);
    }

    public boolean known(int n) {
        if (n < -1 || n > seen.many) {
            return false;
        }
        seen.by = n;
        return true;
    }

    public int fits() {
        loads.leaveThoseThatFit(road, forces, seen);
        return loads.howMany(0);
    }

    public int fit(int k, int what) {
        if (k < 0 || what < 0 || what > 2) {
            return NONE;
        }
        loads.leaveThoseThatFit(road, forces, seen);
        if (!loads.findNumbered(k)) {
            return NOT_SO;
        }
        switch (what) {
            case 0: return loads.goods;
            case 1: return loads.bags;
            default: return loads.stones;
        }
    }

    public int sure(int goods) {
        if (!isGoods(goods)) {
            return NONE;
        }
        loads.leaveThoseThatFit(road, forces, seen);
        int all = loads.howMany(0);
        if (all == 0) {
            return NOT_SO;
        }
        int with = loads.howMany(1 << goods);
        if (with == all) {
            return 1;
        }
        return with == 0 ? 0 : 2;
    }

    public int chance(int seed) {
        if (seed < 0 || !hasWays()) {
            return NONE;
        }
        int ups = 0;
        long number = seed;
        for (int time = 0; time < 10; time++) {
            trial.becomes(cart);
            trial.number = number;
            for (int hour = 0; hour < 30; hour++) {
                trial.hourGoesBy(road, forces);
            }
            number = trial.number;
            if (trial.state == UP) {
                ups++;
            }
        }
        return ups;
    }

    public int tried(int what, int i, int hour) {
        if (!isTrial(what, i) || !isHour(hour) || !hasWays()) {
            return NONE;
        }
        trial.becomes(cart);
        switch (what) {
            case 2: trial.goods &= ~(1 << i); break;
            case 3: trial.bags &= ~(3 << 2 * i); break;
            case 4: trial.stones = 0; break;
            default: break;
        }
        otherwise.ofRoad(road, what == 0, what == 1, what == 5 ? 2 : 1);
        return otherwise.wayFrom(hour, trial.weighs(road), trial.bags) >> 2;
    }

    private boolean isTrial(int what, int i) {
        switch (what) {
            case 0:
            case 1:
            case 4:
            case 5: return i == 0;
            case 2: return isGoods(i);
            case 3: return isSort(i);
            default: return false;
        }
    }

    public int undo() {
        if (undoable == 0) {
            return NONE;
        }
        undoable--;
        int step = undoable * STEP;
        cart.goods = past[step];
        cart.bags = past[step + 1];
        cart.stones = past[step + 2];
        cart.hour = past[step + 3];
        cart.depots[cart.bend] = past[step + 4];
        return undoable;
    }

    /** Kept ahead of each change; the BEND stays the same for as long as one can be undone. */
    private void remember() {
        if (undoable == UNDONE) {
            System.arraycopy(past, STEP, past, 0, (UNDONE - 1) * STEP);
            undoable--;
        }
        int step = undoable * STEP;
        past[step] = cart.goods;
        past[step + 1] = cart.bags;
        past[step + 2] = cart.stones;
        past[step + 3] = cart.hour;
        past[step + 4] = cart.depots[cart.bend];
        undoable++;
    }

    public int keep() {
        image.becomes(cart);
        imageKnownBy = seen.by;
        imaged = true;
        return cart.hour;
    }

    public int back() {
        if (!imaged) {
            return NONE;
        }
        cart.becomes(image);
        seen.by = imageKnownBy;
        undoable = 0;
        return cart.hour;
    }

    public int count(int what) {
        switch (what) {
            case 0: return road.bends;
            case 1: return road.goods;
            case 2: return road.sorts;
            case 3: return road.knots;
            case 4: return cart.hour;
            case 5: return cart.bend;
            case 6: return cart.state;
            case 7: return seen.many;
            case 8: return seen.knownBy();
            case 9: return undoable;
            case 10: return cart.stones;
            case 11: return cart.goods;
            case 12: return cart.bags;
            case 13: return cart.stonesAtDepots();
            default: return NONE;
        }
    }

    private boolean isBend(int bend) {
        return bend >= 0 && bend < road.bends;
    }

    private boolean isGoods(int goods) {
        return goods >= 0 && goods < road.goods;
    }

    private boolean isSort(int sort) {
        return sort >= 0 && sort < road.sorts;
    }

    private static boolean isHour(int hour) {
        return hour >= 0 && hour < HOURS;
    }

    private boolean hasWays() {
        return road.bends >= 2;
    }

    private boolean canBeLoaded() {
        return cart.bend == 0 && cart.state != LOST;
    }

    private static final class Bend {
        int name;
        int height;
        boolean wide;
        int wind;
        int depot;
        int thief;
    }

    private static final class Goods {
        int name;
        int weight;
        int below;
        int above;

        int gain() {
            return above - below;
        }
    }

    /** What a TEXT tells. */
    private static final class Road {
        final Bend[] bendAt = new Bend[BENDS];
        final Goods[] goodsAt = new Goods[GOODS];
        final int[] sortName = new int[SORTS];
        final int[] sizeOf = new int[SORTS];
        final int[] manyOf = new int[SORTS];
        final int[] air = new int[HOURS];
        final Law liftLaw = new Law();
        final Law pullLaw = new Law();
        int bends;
        int goods;
        int sorts;
        int strong;
        int holds;
        int rope;
        int stone;
        int seed;
        int knots;
        int lines;

        Road() {
            for (int i = 0; i < BENDS; i++) {
                bendAt[i] = new Bend();
            }
            for (int i = 0; i < GOODS; i++) {
                goodsAt[i] = new Goods();
            }
            empty();
        }

        void empty() {
            bends = 0;
            goods = 0;
            sorts = 0;
            for (int hour = 0; hour < HOURS; hour++) {
                air[hour] = 5;
            }
            liftLaw.length = 0;
            pullLaw.length = 0;
            strong = 40;
            holds = 10;
            rope = 10;
            stone = 5;
            seed = 0;
            knots = 0;
            lines = 0;
        }

        int findBend(int name) {
            for (int i = 0; i < bends; i++) {
                if (bendAt[i].name == name) {
                    return i;
                }
            }
            return NONE;
        }

        int findGoods(int name) {
            for (int i = 0; i < goods; i++) {
                if (goodsAt[i].name == name) {
                    return i;
                }
            }
            return NONE;
        }

        int findSort(int name) {
            for (int i = 0; i < sorts; i++) {
                if (sortName[i] == name) {
                    return i;
                }
            }
            return NONE;
        }

        int slopeTo(int bend) {
            if (bend <= 0 || bend >= bends) {
                return 0;
            }
            return Math.max(0, bendAt[bend].height - bendAt[bend - 1].height);
        }

        int weightOf(int these) {
            int weight = 0;
            for (int i = 0; i < goods; i++) {
                if ((these >> i & 1) == 1) {
                    weight += goodsAt[i].weight;
                }
            }
            return weight;
        }

        int gainOf(int these) {
            int gain = 0;
            for (int i = 0; i < goods; i++) {
                if ((these >> i & 1) == 1) {
                    gain += goodsAt[i].gain();
                }
            }
            return gain;
        }

        boolean hasBags(int bags) {
            for (int sort = 0; sort < SORTS; sort++) {
                int there = sort < sorts ? manyOf[sort] : 0;
                if ((bags >> 2 * sort & 3) > there) {
                    return false;
                }
            }
            return true;
        }

        int windAt(int high) {
            int highest = NONE;
            int wind = 0;
            for (int i = 0; i < bends; i++) {
                if (bendAt[i].height <= high && bendAt[i].height > highest) {
                    highest = bendAt[i].height;
                    wind = bendAt[i].wind;
                }
            }
            return wind;
        }
    }

    /** An E, its KNOTS behind what they join: a number as it is, all else as its kind below 0. */
    private static final class Law {
        final int[] knot = new int[KNOTS];
        int length;

        boolean isTold() {
            return length > 0;
        }

        void add(int next) {
            if (length < KNOTS) {
                knot[length] = next;
                length++;
            }
        }

        long work(long[] names, long[] values) {
            int top = 0;
            for (int i = 0; i < length; i++) {
                int kind = -knot[i];
                if (kind <= 0) {
                    values[top] = -kind;
                    top++;
                } else if (kind >= SIZE_WORD && kind <= SLOPE_WORD) {
                    values[top] = names[kind - SIZE_WORD];
                    top++;
                } else if (kind == NOT_WORD && top > 0) {
                    values[top - 1] = values[top - 1] == 0 ? 1 : 0;
                } else if (top > 1) {
                    top--;
                    long value = joined(kind, values[top - 1], values[top]);
                    if (value > GREATEST || value < -GREATEST) {
                        return ERROR;
                    }
                    values[top - 1] = value;
                }
            }
            return top == 1 ? values[0] : ERROR;
        }

        private static long joined(int kind, long a, long b) {
            switch (kind) {
                case PLUS: return a + b;
                case MINUS: return a - b;
                case TIMES:
                    // Asked ahead, as the product of two that are allowed may not fit into a long.
                    if (a != 0 && (b < 0 ? -b : b) > GREATEST / (a < 0 ? -a : a)) {
                        return ERROR;
                    }
                    return a * b;
                case OVER: return b == 0 ? ERROR : a / b;
                case LESS: return a < b ? 1 : 0;
                case AT_MOST: return a <= b ? 1 : 0;
                case EQUAL: return a == b ? 1 : 0;
                case UNLIKE: return a != b ? 1 : 0;
                case AT_LEAST: return a >= b ? 1 : 0;
                case MORE: return a > b ? 1 : 0;
                case AND_WORD: return a != 0 && b != 0 ? 1 : 0;
                case OR_WORD: return a != 0 || b != 0 ? 1 : 0;
                default: return ERROR;
            }
        }
    }

    /** The tokens of the tape's first bytes, one at a time. */
    private static final class Tokens {
        private final byte[] tape;
        private final int[] language = new int[WORDS];
        private int length;
        private int next;
        int kind;
        int value;
        int place;

        Tokens(byte[] tape) {
            this.tape = tape;
            int word = 0;
            int first = 0;
            for (int i = 0; i < LANGUAGE.length() && word < WORDS; i++) {
                if (LANGUAGE.charAt(i) == ' ') {
                    language[word] = lettersOf(first, i);
                    word++;
                    first = i + 1;
                }
            }
        }

        private static int lettersOf(int from, int to) {
            int letters = 0;
            for (int i = 0; i < 6; i++) {
                int letter = from + i < to && from + i < LANGUAGE.length() ? LANGUAGE.charAt(from + i) - 'a' + 1 : 0;
                letters = letters << 5 | letter;
            }
            return letters;
        }

        void begin(int bytes) {
            length = Math.min(bytes, tape.length);
            next = 0;
            step();
        }

        void step() {
            while (next < length && (tape[next] == 10 || tape[next] == 32)) {
                next++;
            }
            place = next;
            if (next >= length) {
                kind = END;
            } else if (isLetter(tape[next])) {
                readWord();
            } else if (isDigit(tape[next])) {
                readNumber();
            } else {
                kind = signOf(tape[next]);
                next++;
                readSecondSign();
            }
        }

        private static boolean isLetter(byte sign) {
            return sign >= 'a' && sign <= 'z';
        }

        private static boolean isDigit(byte sign) {
            return sign >= '0' && sign <= '9';
        }

        private void readWord() {
            int letters = 0;
            while (next < length && isLetter(tape[next])) {
                if (next - place < 6) {
                    letters |= (tape[next] - 'a' + 1) << 5 * (5 - (next - place));
                }
                next++;
            }
            value = letters;
            kind = next - place > 6 ? NO_TOKEN : kindOf(letters);
        }

        private int kindOf(int letters) {
            for (int word = 0; word < WORDS; word++) {
                if (language[word] == letters) {
                    return WORD + word;
                }
            }
            return OWN_NAME;
        }

        private void readNumber() {
            int number = 0;
            while (next < length && isDigit(tape[next])) {
                // No number of the language comes near to it, so that more digits change nothing.
                number = Math.min(FAR, number * 10 + tape[next] - '0');
                next++;
            }
            value = number;
            kind = NUMBER;
        }

        private static int signOf(byte sign) {
            switch (sign) {
                case ';': return SEMICOLON;
                case '(': return OPEN;
                case ')': return CLOSE;
                case '+': return PLUS;
                case '-': return MINUS;
                case '*': return TIMES;
                case '/': return OVER;
                case '<': return LESS;
                case '=': return EQUAL;
                case '>': return MORE;
                default: return NO_TOKEN;
            }
        }

        private void readSecondSign() {
            if (next >= length || kind != LESS && kind != MORE) {
                return;
            }
            if (tape[next] == '=') {
                kind = kind == LESS ? AT_MOST : AT_LEAST;
                next++;
            } else if (tape[next] == '>' && kind == LESS) {
                kind = UNLIKE;
                next++;
            }
        }
    }

    /** Reads a TEXT into a road; every fault is found at the token that is looked at. */
    private static final class Parser {
        private final Tokens tokens;
        private final int[] waiting = new int[KNOTS + OPEN_AT_ONCE];
        private int top;
        private int open;
        private Road road;
        private int told;
        private int depotsTold;
        private int thievesTold;
        private int number;
        int fault;
        int place;

        Parser(byte[] tape, Road road) {
            tokens = new Tokens(tape);
            this.road = road;
        }

        boolean parse(Road into, int bytes) {
            road = into;
            road.empty();
            told = 0;
            depotsTold = 0;
            thievesTold = 0;
            fault = 0;
            place = NONE;
            tokens.begin(bytes);
            // No LINE is shorter than a byte.
            for (int line = 0; line <= bytes && tokens.kind != END; line++) {
                if (!readLine()) {
                    return false;
                }
                if (tokens.kind != SEMICOLON) {
                    return fails(CANT_STAND);
                }
                tokens.step();
                road.lines++;
            }
            return true;
        }

        private boolean fails(int how) {
            fault = how;
            place = tokens.place;
            return false;
        }

        private boolean readLine() {
            switch (tokens.kind) {
                case BEND_WORD: return isBelow(BENDS, road.bends) && readBend() && readWind();
                case GOODS_WORD: return isBelow(GOODS, road.goods) && readGoods();
                case BAG_WORD: return isBelow(SORTS, road.sorts) && readBag();
                case DEPOT_WORD: return readDepot();
                case THIEF_WORD: return readThief();
                case WARM_WORD: return isToldOnce() && readWarm();
                case HORSE_WORD: return isToldOnce() && readHorse();
                case ROPE_WORD: return isToldOnce() && readRope();
                case STONE_WORD: return isToldOnce() && readStone();
                case SEED_WORD: return isToldOnce() && readSeed();
                case LAW_WORD: return readLaw();
                default: return fails(CANT_STAND);
            }
        }

        private boolean isBelow(int most, int many) {
            return many < most || fails(TOO_MUCH);
        }

        private boolean isToldOnce() {
            int bit = 1 << tokens.kind - WORD;
            if ((told & bit) != 0) {
                return fails(TOLD_ALREADY);
            }
            told |= bit;
            return true;
        }

        /** Takes a number that is in range to the field number. */
        private boolean takesNumber(int low, int high) {
            if (tokens.kind != NUMBER) {
                return fails(CANT_STAND);
            }
            if (tokens.value < low || tokens.value > high) {
                return fails(TOO_MUCH);
            }
            number = tokens.value;
            tokens.step();
            return true;
        }

        private boolean isNewName(int found) {
            if (tokens.kind != OWN_NAME) {
                return fails(CANT_STAND);
            }
            return found == NONE || fails(TOLD_ALREADY);
        }

        private boolean readBend() {
            Bend next = road.bendAt[road.bends];
            tokens.step();
            if (!isNewName(road.findBend(tokens.value))) {
                return false;
            }
            next.name = tokens.value;
            next.wide = false;
            next.wind = 0;
            next.depot = 0;
            next.thief = 0;
            tokens.step();
            if (!takesNumber(0, 99)) {
                return false;
            }
            next.height = number;
            road.bends++;
            if (tokens.kind == WIDE_WORD) {
                next.wide = true;
                tokens.step();
            }
            return true;
        }

        private boolean readWind() {
            if (tokens.kind != WIND_WORD) {
                return true;
            }
            tokens.step();
            boolean minus = tokens.kind == MINUS;
            if (minus) {
                tokens.step();
            }
            if (road.bends == 0 || !takesNumber(0, 9)) {
                return false;
            }
            road.bendAt[road.bends - 1].wind = minus ? -number : number;
            return true;
        }

        private boolean readGoods() {
            Goods next = road.goodsAt[road.goods];
            tokens.step();
            if (!isNewName(road.findGoods(tokens.value))) {
                return false;
            }
            next.name = tokens.value;
            tokens.step();
            if (!takesNumber(1, 60)) {
                return false;
            }
            next.weight = number;
            if (!takesNumber(0, 99)) {
                return false;
            }
            next.below = number;
            if (!takesNumber(0, 99)) {
                return false;
            }
            next.above = number;
            road.goods++;
            return true;
        }

        private boolean readBag() {
            int next = road.sorts;
            tokens.step();
            if (!isNewName(road.findSort(tokens.value))) {
                return false;
            }
            road.sortName[next] = tokens.value;
            tokens.step();
            if (!takesNumber(1, 9)) {
                return false;
            }
            road.sizeOf[next] = number;
            if (!takesNumber(0, 3)) {
                return false;
            }
            road.manyOf[next] = number;
            road.sorts++;
            return true;
        }

        /** The BEND that W names, or NONE with a fault. */
        private int bendToldAhead(int already) {
            int bend = tokens.kind == OWN_NAME ? road.findBend(tokens.value) : NONE;
            if (bend == NONE) {
                fails(tokens.kind == OWN_NAME ? NOT_AHEAD : CANT_STAND);
                return NONE;
            }
            if ((already >> bend & 1) == 1) {
                fails(TOLD_ALREADY);
                return NONE;
            }
            tokens.step();
            return bend;
        }

        private boolean readDepot() {
            tokens.step();
            int bend = bendToldAhead(depotsTold);
            if (bend == NONE || !takesNumber(0, 9)) {
                return false;
            }
            road.bendAt[bend].depot = number;
            depotsTold |= 1 << bend;
            return true;
        }

        private boolean readThief() {
            tokens.step();
            int bend = bendToldAhead(thievesTold);
            if (bend == NONE || !takesNumber(0, 99)) {
                return false;
            }
            road.bendAt[bend].thief = number;
            thievesTold |= 1 << bend;
            return true;
        }

        private boolean readWarm() {
            tokens.step();
            for (int hour = 0; hour < HOURS; hour++) {
                if (hour > 0 && tokens.kind != NUMBER) {
                    return true;
                }
                if (!takesNumber(0, 9)) {
                    return false;
                }
                road.air[hour] = number;
            }
            return tokens.kind != NUMBER || fails(TOO_MUCH);
        }

        private boolean readHorse() {
            tokens.step();
            if (!takesNumber(1, 199)) {
                return false;
            }
            road.strong = number;
            if (!takesNumber(0, 99)) {
                return false;
            }
            road.holds = number;
            return true;
        }

        private boolean readRope() {
            tokens.step();
            if (!takesNumber(0, 99)) {
                return false;
            }
            road.rope = number;
            return true;
        }

        private boolean readStone() {
            tokens.step();
            if (!takesNumber(1, 20)) {
                return false;
            }
            road.stone = number;
            return true;
        }

        private boolean readSeed() {
            tokens.step();
            if (!takesNumber(0, 99999)) {
                return false;
            }
            road.seed = number;
            return true;
        }

        private boolean readLaw() {
            tokens.step();
            if (tokens.kind != LIFT_WORD && tokens.kind != PULL_WORD) {
                return fails(CANT_STAND);
            }
            Law law = tokens.kind == LIFT_WORD ? road.liftLaw : road.pullLaw;
            if (law.isTold()) {
                return fails(TOLD_ALREADY);
            }
            top = 0;
            open = 0;
            boolean wantsValue = true;
            // Signs wait until what they join has come, so that no call nests by the depth of E.
            for (int step = 0; step < TAPE; step++) {
                tokens.step();
                if (wantsValue) {
                    if (!takesValue(law)) {
                        return false;
                    }
                    wantsValue = tokens.kind == OPEN || tokens.kind == NOT_WORD;
                } else if (tokens.kind == CLOSE && open > 0) {
                    settle(law, RANK_OR);
                    top--;
                    open--;
                } else if (rankOf(tokens.kind) != RANK_NONE) {
                    if (!takesSign(law)) {
                        return false;
                    }
                    wantsValue = true;
                } else {
                    settle(law, RANK_OR);
                    return open == 0 || fails(CANT_STAND);
                }
            }
            return fails(CANT_STAND);
        }

        private boolean isOneKnotMore() {
            if (road.knots >= KNOTS) {
                return fails(TOO_MUCH);
            }
            road.knots++;
            return true;
        }

        private boolean takesValue(Law law) {
            int kind = tokens.kind;
            if (kind == NUMBER) {
                if (tokens.value > 9999) {
                    return fails(TOO_MUCH);
                }
                law.add(tokens.value);
                return isOneKnotMore();
            }
            if (kind >= SIZE_WORD && kind <= SLOPE_WORD) {
                law.add(-kind);
                return isOneKnotMore();
            }
            if (kind == OPEN) {
                if (open >= OPEN_AT_ONCE) {
                    return fails(TOO_MUCH);
                }
                open++;
                push(kind);
                return true;
            }
            // Behind + or < only a sum's part may come, and not is none.
            if (kind == NOT_WORD && rankOnTop() <= RANK_NOT) {
                push(kind);
                return isOneKnotMore();
            }
            return fails(CANT_STAND);
        }

        private boolean takesSign(Law law) {
            int rank = rankOf(tokens.kind);
            settle(law, rank == RANK_COMPARED ? RANK_SUM : rank);
            if (rank == RANK_COMPARED && rankOnTop() == RANK_COMPARED) {
                return fails(CANT_STAND);
            }
            push(tokens.kind);
            return isOneKnotMore();
        }

        private void push(int kind) {
            if (top < waiting.length) {
                waiting[top] = kind;
                top++;
            }
        }

        private int rankOnTop() {
            if (top == 0) {
                return RANK_NONE;
            }
            return waiting[top - 1] == NOT_WORD ? RANK_NOT : rankOf(waiting[top - 1]);
        }

        /** Lets go what waits on top and binds at least so fast. */
        private void settle(Law law, int rank) {
            while (top > 0 && rankOnTop() >= rank) {
                top--;
                law.add(-waiting[top]);
            }
        }

        /** The rank of a sign that joins two. */
        private static int rankOf(int kind) {
            switch (kind) {
                case OR_WORD: return RANK_OR;
                case AND_WORD: return RANK_AND;
                case PLUS:
                case MINUS: return RANK_SUM;
                case TIMES:
                case OVER: return RANK_PRODUCT;
                default: return kind >= LESS && kind <= MORE ? RANK_COMPARED : RANK_NONE;
            }
        }
    }

    /** What is lifted and pulled on a road, as it is told or as it is tried otherwise. */
    private static final class Forces {
        // Worked out when first asked for; NONE until then.
        private final int[] lifts = new int[SORTS * BENDS * HOURS];
        private final int[] pulls = new int[BENDS * HOURS];
        private final long[] names = new long[6];
        private final long[] values = new long[KNOTS];
        private Road road;
        private boolean warm;
        private boolean calm;
        private int times;

        Forces(Road road) {
            this.road = road;
        }

        void ofRoad(Road itsRoad, boolean alwaysWarm, boolean noWind, int strongTimes) {
            road = itsRoad;
            warm = alwaysWarm;
            calm = noWind;
            times = strongTimes;
            for (int i = 0; i < lifts.length; i++) {
                lifts[i] = NONE;
            }
            for (int i = 0; i < pulls.length; i++) {
                pulls[i] = NONE;
            }
        }

        long worked(Law law, int size, int bend, int hour) {
            Bend there = road.bendAt[bend];
            names[0] = size;
            names[1] = there.height;
            names[2] = warm ? 9 : road.air[hour];
            names[3] = hour;
            names[4] = calm ? 0 : Math.abs(there.wind);
            names[5] = road.slopeTo(bend);
            return law.work(names, values);
        }

        int lifted(int sort, int bend, int hour) {
            int known = (sort * BENDS + bend) * HOURS + hour;
            if (lifts[known] == NONE) {
                int size = road.sizeOf[sort];
                long value = worked(road.liftLaw, size, bend, hour);
                if (value == ERROR) {
                    value = size * road.bendAt[bend].height / 10;
                }
                lifts[known] = (int) Math.max(0, Math.min(99, value));
            }
            return lifts[known];
        }

        int pulled(int bend, int hour) {
            int known = bend * HOURS + hour;
            if (pulls[known] == NONE) {
                int strong = road.strong * times;
                long value = worked(road.pullLaw, strong, bend, hour);
                if (value == ERROR) {
                    value = strong - road.slopeTo(bend) / 2;
                }
                pulls[known] = (int) Math.max(0, Math.min(999, value));
            }
            return pulls[known];
        }

        int bagsLift(int bags, int bend, int hour) {
            int all = 0;
            for (int sort = 0; sort < road.sorts; sort++) {
                int many = bags >> 2 * sort & 3;
                if (many > 0) {
                    all += many * lifted(sort, bend, hour);
                }
            }
            return all;
        }

        /** Where a WAY ends, times 4, and how (UP, STUCK, LOST). */
        int wayFrom(int hour, int weight, int bags) {
            if (weight - bagsLift(bags, 0, hour) < -road.holds) {
                return LOST;
            }
            for (int bend = 1; bend < road.bends; bend++) {
                int then = (hour + bend) % HOURS;
                int net = weight - bagsLift(bags, bend, then);
                if (net > pulled(bend, then)) {
                    return (bend - 1) * 4 + STUCK;
                }
                if (net < -road.holds) {
                    return bend * 4 + LOST;
                }
            }
            return (road.bends - 1) * 4 + UP;
        }
    }

    private static final class Cart {
        final int[] depots = new int[BENDS];
        int goods;
        int bags;
        int stones;
        int bend;
        int hour;
        int state;
        long number;

        void start(Road road) {
            goods = 0;
            bags = 0;
            stones = 0;
            bend = 0;
            hour = 0;
            state = ON_ITS_WAY;
            number = road.seed;
            for (int i = 0; i < BENDS; i++) {
                depots[i] = i < road.bends ? road.bendAt[i].depot : 0;
            }
        }

        void becomes(Cart other) {
            goods = other.goods;
            bags = other.bags;
            stones = other.stones;
            bend = other.bend;
            hour = other.hour;
            state = other.state;
            number = other.number;
            System.arraycopy(other.depots, 0, depots, 0, BENDS);
        }

        int weighs(Road road) {
            return road.weightOf(goods) + stones * road.stone;
        }

        int stonesAtDepots() {
            int all = 0;
            for (int i = 0; i < BENDS; i++) {
                all += depots[i];
            }
            return all;
        }

        void hourGoesBy(Road road, Forces forces) {
            int next = bend + 1;
            if (state != ON_ITS_WAY || next >= road.bends) {
                return;
            }
            int weight = weighs(road);
            if (weight - forces.bagsLift(bags, bend, hour) < -road.holds) {
                state = LOST;
                return;
            }
            hour = (hour + 1) % HOURS;
            int net = weight - forces.bagsLift(bags, next, hour);
            if (net > forces.pulled(next, hour)) {
                return;
            }
            bend = next;
            if (net < -road.holds) {
                state = LOST;
                return;
            }
            meetThief(road.bendAt[next].thief);
            if (next == road.bends - 1) {
                state = UP;
            }
        }

        private void meetThief(int ofHundred) {
            if (ofHundred == 0) {
                return;
            }
            number = (number * 1103515245L + 12345L) & 0x7fffffffL;
            if (number / 65536 % 100 >= ofHundred) {
                return;
            }
            for (int sort = 0; sort < SORTS; sort++) {
                if ((bags >> 2 * sort & 3) > 0) {
                    bags -= 1 << 2 * sort;
                    return;
                }
            }
        }
    }

    /**
     * A set of LOADS. Every question left in it is one of NET between two bounds, and for given BAGS
     * such a one is a range of WEIGHT: so a range for each number of BAGS tells them all.
     */
    private static final class Loads {
        private final int[] least = new int[ALL_BAGS];
        private final int[] greatest = new int[ALL_BAGS];
        private final int[] weights = new int[ALL_GOODS];
        private Road road;
        private int allGoods;
        private int allBags;
        int goods;
        int bags;
        int stones;

        Loads(Road road) {
            this.road = road;
        }

        private void leaveAll(Road itsRoad) {
            road = itsRoad;
            allGoods = 1 << road.goods;
            allBags = 1 << 2 * road.sorts;
            for (int these = 0; these < allGoods; these++) {
                weights[these] = road.weightOf(these);
            }
            for (int these = 0; these < allBags; these++) {
                boolean are = road.hasBags(these);
                least[these] = are ? -FAR : FAR;
                greatest[these] = are ? FAR : -FAR;
            }
        }

        private boolean isLeft(int these) {
            return least[these] <= greatest[these];
        }

        private void narrow(int these, int low, int high) {
            least[these] = Math.max(least[these], low);
            greatest[these] = Math.min(greatest[these], high);
        }

        void leaveThoseUp(Road itsRoad, Forces forces, int hour) {
            leaveAll(itsRoad);
            for (int bend = 0; bend < road.bends; bend++) {
                int then = (hour + bend) % HOURS;
                int pulled = bend == 0 ? FAR : forces.pulled(bend, then);
                for (int these = 0; these < allBags; these++) {
                    if (isLeft(these)) {
                        int lifted = forces.bagsLift(these, bend, then);
                        narrow(these, lifted - road.holds, lifted + pulled);
                    }
                }
            }
        }

        void leaveThoseThatFit(Road itsRoad, Forces forces, Seen seen) {
            leaveAll(itsRoad);
            seen.findStruck();
            for (int i = 0; i < seen.knownBy(); i++) {
                if (seen.isStrike(i) || seen.struck[i]) {
                    continue;
                }
                for (int these = 0; these < allBags; these++) {
                    if (isLeft(these)) {
                        int lifted = forces.bagsLift(these, seen.bend[i], seen.hour[i]);
                        narrow(these, seen.low[i] + lifted, seen.high[i] + lifted);
                    }
                }
            }
        }

        private int fewestStones(int weight, int these) {
            return Math.max(0, -Math.floorDiv(weight - least[these], Math.max(1, road.stone)));
        }

        private int mostStones(int weight, int these) {
            return Math.min(STONES, Math.floorDiv(greatest[these] - weight, Math.max(1, road.stone)));
        }

        /** Finds the LOAD that pays best; false if none is left. */
        boolean findBest() {
            boolean found = false;
            int best = 0;
            for (int some = 0; some < allGoods; some++) {
                int gain = road.gainOf(some);
                if (found && gain < best) {
                    continue;
                }
                for (int these = 0; these < allBags; these++) {
                    if (howManyStones(some, these) == 0) {
                        continue;
                    }
                    int fewest = fewestStones(weights[some], these);
                    // Those with less GOODS and BAGS came ahead, so a like one is no better.
                    if (!found || gain > best || fewest < stones) {
                        found = true;
                        best = gain;
                        goods = some;
                        bags = these;
                        stones = fewest;
                    }
                }
            }
            return found;
        }

        /** The least price for a pound at which none of these LOADS brings more than 0. */
        int priceForNone() {
            int price = 0;
            for (int some = 1; some < allGoods; some++) {
                int gain = road.gainOf(some);
                if (gain > price * weights[some] && canBeCarried(some)) {
                    price = -Math.floorDiv(-gain, Math.max(1, weights[some]));
                }
            }
            return price;
        }

        private boolean canBeCarried(int some) {
            for (int these = 0; these < allBags; these++) {
                if (howManyStones(some, these) > 0) {
                    return true;
                }
            }
            return false;
        }

        private int howManyStones(int some, int these) {
            if (!isLeft(these)) {
                return 0;
            }
            return Math.max(0, mostStones(weights[some], these) - fewestStones(weights[some], these) + 1);
        }

        /** How many of these LOADS have all these GOODS. */
        int howMany(int with) {
            int many = 0;
            for (int some = 0; some < allGoods; some++) {
                if ((some & with) != with) {
                    continue;
                }
                for (int these = 0; these < allBags; these++) {
                    many += howManyStones(some, these);
                }
            }
            return many;
        }

        /** Finds the k-th by GOODS, BAGS, stones; false if there are not so many. */
        boolean findNumbered(int k) {
            int left = k;
            for (int some = 0; some < allGoods; some++) {
                for (int these = 0; these < allBags; these++) {
                    int many = howManyStones(some, these);
                    if (left < many) {
                        goods = some;
                        bags = these;
                        stones = fewestStones(weights[some], these) + left;
                        return true;
                    }
                    left -= many;
                }
            }
            return false;
        }
    }

    /** Stones changed on a WAY as seldom as can be. */
    private static final class Ballast {
        private static final int CHOICES = STONES + 1;
        private final int[] fewest = new int[BENDS * CHOICES];
        // The range of WEIGHT with which it may leave a BEND for the next one.
        private final int[] least = new int[BENDS];
        private final int[] greatest = new int[BENDS];
        final int[] behind = new int[BENDS];

        /** How many BENDS it takes, or -2; the row behind tells the stones then. */
        int plan(Road road, Forces forces, Cart cart, int hour) {
            int last = road.bends - 1;
            if (last < 1) {
                return NOT_SO;
            }
            for (int bend = 0; bend < last; bend++) {
                int now = (hour + bend) % HOURS;
                int then = (now + 1) % HOURS;
                int lifted = forces.bagsLift(cart.bags, bend, now);
                int liftedThen = forces.bagsLift(cart.bags, bend + 1, then);
                least[bend] = Math.max(lifted, liftedThen) - road.holds;
                greatest[bend] = liftedThen + forces.pulled(bend + 1, then);
            }
            int weight = road.weightOf(cart.goods);
            for (int stones = 0; stones < CHOICES; stones++) {
                fewest[last * CHOICES + stones] = 0;
            }
            for (int bend = last - 1; bend >= 0; bend--) {
                for (int stones = 0; stones < CHOICES; stones++) {
                    int most = mostBehind(cart, bend, stones);
                    int choice = choose(bend, stones, most, weight, road.stone);
                    fewest[bend * CHOICES + stones] = choice == NONE ? FAR : costOf(bend, stones, choice);
                }
            }
            return follow(road, cart, weight);
        }

        private static int mostBehind(Cart cart, int bend, int stones) {
            return bend == 0 ? STONES : Math.min(STONES, stones + cart.depots[bend]);
        }

        private int costOf(int bend, int stones, int choice) {
            return fewest[(bend + 1) * CHOICES + choice] + (choice == stones ? 0 : 1);
        }

        /** The least number of stones behind a BEND that costs the least from there on, or NONE. */
        private int choose(int bend, int stones, int most, int weight, int each) {
            int best = NONE;
            int least = FAR;
            for (int choice = 0; choice <= most; choice++) {
                int all = weight + choice * each;
                if (all >= this.least[bend] && all <= greatest[bend] && costOf(bend, stones, choice) < least) {
                    least = costOf(bend, stones, choice);
                    best = choice;
                }
            }
            return best;
        }

        private int follow(Road road, Cart cart, int weight) {
            int stones = cart.stones;
            if (fewest[stones] >= FAR) {
                return NOT_SO;
            }
            for (int bend = 0; bend < road.bends - 1; bend++) {
                int most = mostBehind(cart, bend, stones);
                stones = Math.max(0, choose(bend, stones, most, weight, road.stone));
                behind[bend] = stones;
            }
            behind[road.bends - 1] = stones;
            return fewest[cart.stones];
        }
    }

    /** What was SEEN, with the STRIKES among it. */
    private static final class Seen {
        final int[] bend = new int[SEEN];
        final int[] hour = new int[SEEN];
        final int[] low = new int[SEEN];
        final int[] high = new int[SEEN];
        final boolean[] struck = new boolean[SEEN];
        // The one that a STRIKE strikes; NONE of what is no STRIKE.
        private final int[] strikes = new int[SEEN];
        int many;
        int by;

        void forgetAll() {
            many = 0;
            by = NONE;
        }

        int add(int itsBend, int itsHour, int itsLow, int itsHigh) {
            if (many >= SEEN) {
                return NONE;
            }
            bend[many] = itsBend;
            hour[many] = itsHour;
            low[many] = itsLow;
            high[many] = itsHigh;
            strikes[many] = NONE;
            many++;
            return many - 1;
        }

        int addStrike(int one) {
            if (one < 0 || one >= many || many >= SEEN) {
                return NONE;
            }
            strikes[many] = one;
            many++;
            return many - 1;
        }

        boolean isStrike(int one) {
            return strikes[one] != NONE;
        }

        int knownBy() {
            return by == NONE ? many : Math.min(by, many);
        }

        /** From the last one on, as a STRIKE strikes only what came ahead of it. */
        void findStruck() {
            for (int i = 0; i < many; i++) {
                struck[i] = false;
            }
            for (int i = knownBy() - 1; i >= 0; i--) {
                if (!struck[i] && strikes[i] != NONE) {
                    struck[strikes[i]] = true;
                }
            }
        }
    }
}
