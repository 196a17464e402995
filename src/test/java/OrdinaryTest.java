/** What the document says of the ordinary run of things, under its own words, mostly on one road worked out by hand. */
public final class OrdinaryTest {
    private static final int FOOT = 0;
    private static final int MILL = 1;
    private static final int GATE = 2;
    private static final int TOP = 3;
    private static final int SALT = 0;
    private static final int IRON = 1;
    private static final int WOOL = 2;
    private static final int BIG = 0;
    private static final int TINY = 1;

    // From HOUR 0 on a big BAG lifts 12, 34, 38, 23, a tiny one 5, 17, 16, 11, and 51, 62, 41 is pulled.
    private static final String ROAD = "bend foot 10 wind 2;bend mill 30 wide;bend gate 25 wind -4;bend top 70 wide wind 6;\n"
        + "goods salt 12 5 20;goods iron 40 30 75;goods wool 3 0 9;bag big 9 2;bag tiny 4 3;\n"
        + "depot mill 4;thief gate 50;warm 3 7 9;horse 60 8;rope 11;stone 6;seed 3;\n"
        + "law lift size*air/2+height/10-gust;law pull size-slope/2+hour;";

    public static void main(String[] args) {
        lines();
        expressions();
        names();
        faults();
        tables();
        forces();
        ways();
        theCart();
        hours();
        mostAndToll();
        ballast();
        ropes();
        meeting();
        worthAndLands();
        seen();
        chance();
        tried();
        counts();
        Check.end("OrdinaryTest");
    }

    private static UphillCarts loaded(boolean salt, boolean iron, boolean wool, int big, int tiny, int stones) {
        UphillCarts x = Check.of(ROAD);
        boolean[] goods = {salt, iron, wool};
        for (int i = 0; i < goods.length; i++) {
            if (goods[i]) {
                x.load(i, true);
            }
        }
        x.tie(BIG, big);
        x.tie(TINY, tiny);
        x.stones(stones);
        return x;
    }

    private static void lines() {
        Check.says("LINE: bend W N [ wide ] [ wind O ] | goods W N N N | bag W N N | depot W N | thief W N | warm N { N } | horse N N | rope N |"
            + " stone N | seed N | law KIND E. O: [ - ] N. KIND: lift | pull.");
        String[] good = {"bend b 3", "bend b 3 wide", "bend b 3 wind 4", "bend b 3 wind - 4", "bend b 3 wide wind 4", "goods b 1 2 3", "bag b 1 2",
            "depot a 3", "thief a 3", "warm 3", "warm 3 4 5", "horse 3 4", "rope 3", "stone 3", "seed 3", "law lift 3", "law pull 3"};
        for (String line : good) {
            Check.good("bend a 0;" + line + ";");
        }
        String[] less = {"bend", "bend b", "bend b 3 wind", "bend b 3 wind -", "goods", "goods b", "goods b 1", "goods b 1 2", "bag", "bag b", "bag b 1",
            "depot", "depot a", "thief", "thief a", "warm", "horse", "horse 3", "rope", "stone", "seed", "law", "law lift", "law pull"};
        for (String line : less) {
            Check.faultAtMark("bend a 0;" + line + "^;", 1);
            Check.faultAtMark("bend a 0;" + line + "^", 1);
        }
        String[] more = {"bend b 3 ^4", "bend b 3 wide ^wide", "bend b 3 wind 4 ^5", "bend b 3 wind 4 ^wide", "bend b 3 ^- 4", "bend b ^wide 3",
            "goods b 1 2 3 ^4", "goods ^1 2 3", "goods b 1 2 ^b", "bag b 1 2 ^3", "bag ^1 2", "depot a 3 ^4", "depot ^3", "thief a 3 ^4", "warm 3 ^wide",
            "warm ^- 3", "horse 3 4 ^5", "horse ^a 3 4", "rope 3 ^4", "stone 3 ^4", "seed 3 ^4", "seed ^- 3", "law ^3", "law lift 3 ^4", "law lift ^pull 3",
            "law ^size 3", "^wide", "^wind 3", "^lift 3", "^a 3", "^3", "^;"};
        for (String line : more) {
            Check.faultAtMark("bend a 0;" + line + ";", 1);
        }
        Check.says("N: digits.");
        UphillCarts x = Check.of("bend a 0070;bend b 070;horse 00000041 02;");
        Check.due("HEIGHT", x.look(0, 0), 70);
        Check.due("STRONG", x.pull(1, 0), 41);
        Check.faultAtMark("bend a 7^.5;", 1);
        Check.faultAtMark("bend a ^+7;", 1);
    }

    /** What E is at a BEND of HEIGHT 7, WIND -3, with a BAG of SIZE 4, at HOUR 2. */
    private static void is(String e, long value) {
        UphillCarts x = Check.of("bend low 2;bend b 7 wind -3;bag s 4 1;warm 1 2 8;law lift " + e + ";");
        Check.due(e, x.law(0, 0, 1, 2), value);
    }

    private static void expressions() {
        Check.says("E: A { or A }. A: B { and B }.");
        is("1 or 0 and 0", 1);
        is("0 and 0 or 1", 1);
        is("0 or 0 or 0 or 5", 1);
        is("3 and 4 and 0 and 5", 0);
        is("0 or 2 and 3", 1);
        is("(1 or 0) and 0", 0);
        Check.says("S: T { ( + | - ) T }. T: P { ( * | / ) P }.");
        is("10-3-2", 5);
        is("10-(3-2)", 9);
        is("2+3*4", 14);
        is("(2+3)*4", 20);
        is("100/10/5", 2);
        is("100/(10/5)", 50);
        is("7/2*2", 6);
        is("7*2/2", 7);
        is("1+2*3-8/4+5", 10);
        is("1+1<1+2", 1);
        Check.says("VALUES are longs;");
        is("9999*9999*9999", 999700029999L);
        is("0-9999*9999*9999", -999700029999L);
        is("9999*9999*9999/9999/9999", 9999);
    }

    private static void names() {
        Check.says("NAME: size height air hour gust slope.");
        is("size", 4);
        is("height", 7);
        is("air", 8);
        is("hour", 2);
        is("gust", 3);
        is("slope", 5);
        Check.says("NAMES: size: of the BAG (of pull: STRONG)");
        UphillCarts y = Check.of(ROAD.replace("size*air/2+height/10-gust", "size"));
        Check.due("big", y.law(0, BIG, TOP, 0), 9);
        Check.due("tiny", y.law(0, TINY, TOP, 0), 4);
        Check.due("STRONG", y.law(1, TINY, GATE, 0), 60);
        Check.says("height, gust (WIND without sign) of the BEND");
        UphillCarts x = Check.of(ROAD.replace("size*air/2+height/10-gust", "height*10+gust"));
        int[] due = {102, 300, 254, 706};
        for (int bend = FOOT; bend <= TOP; bend++) {
            Check.due("at BEND " + bend, x.law(0, TINY, bend, 9), due[bend]);
        }
    }

    private static void faults() {
        Check.says("with its place: 1 a TOKEN that is none");
        for (String none : new String[] {".", ",", ":", "A", "Z", "_", "\t", "\r", "[", "}", "!", "\"", "#", "&", "|", "'", "\u0000", "\u007f", "\u00e9"}) {
            Check.faultAtMark("bend a 0;^" + none, 1);
            Check.faultAtMark("bend a ^" + none + "0;", 1);
            Check.faultAtMark("law lift 1+^" + none + ";", 1);
        }
        Check.says("2 too much (at it): a number beyond what is said,");
        Check.faultAtMark("bend a ^100 wide;", 2);
        Check.faultAtMark("bend a 9 wind -^10;", 2);
        Check.faultAtMark("goods a ^0 0 0;", 2);
        Check.faultAtMark("goods a 1 0 ^100;", 2);
        Check.faultAtMark("bag a 1 ^4;", 2);
        Check.faultAtMark("horse 1 ^100;", 2);
        Check.faultAtMark("law lift 1*^10000;", 2);
        Check.says("warm: AIR of HOURS 0, 1 and so on");
        UphillCarts y = Check.of("bend a 0;bag s 1 1;law lift air;warm 4 0 9 1;");
        int[] air = {4, 0, 9, 1, 5, 5};
        for (int hour = 0; hour < air.length; hour++) {
            Check.due("HOUR " + hour, y.lift(0, 0, hour), air[hour]);
        }
        Check.says("horse: STRONG 1 .. 199 (40), HOLDS 0 .. 99 (10)");
        y = Check.of("bend a 0;bend b 0;bag s 1 1;horse 33 7;law lift 7;");
        y.tie(0, 1);
        Check.due("STRONG", y.pull(1, 0), 33);
        Check.due("7 below 0 is held", y.led(0, 1), 1);
        Check.says("how many LINES");
        UphillCarts x = new UphillCarts();
        Check.due("all lines", Check.tell(x, ROAD), 18);
        Check.due("two", Check.tell(x, "bend a 0;\n\nseed 1 ;"), 2);
    }

    private static void tables() {
        UphillCarts x = Check.of(ROAD);
        Check.says("The number of a BEND (what 0), GOODS (1), a sort of BAGS (2)");
        String[][] all = {{"foot", "mill", "gate", "top"}, {"salt", "iron", "wool"}, {"big", "tiny"}};
        for (int kind = 0; kind < 3; kind++) {
            for (int what = 0; what < 3; what++) {
                for (int i = 0; i < all[kind].length; i++) {
                    Check.due(all[kind][i] + " by " + what, x.named(what, Check.letters(all[kind][i])), what == kind ? i : -1);
                }
            }
        }
        Check.says("Of a BEND, what 0 HEIGHT, 1 WIDE (1, 0), 2 WIND,");
        int[][] bends = {{10, 0, 2, 0, 0, 0}, {30, 1, 0, 4, 0, 20}, {25, 0, -4, 0, 50, 0}, {70, 1, 6, 0, 0, 45}};
        for (int bend = FOOT; bend <= TOP; bend++) {
            for (int what = 0; what < 5; what++) {
                Check.due("look(" + bend + ", " + what + ")", x.look(bend, what), bends[bend][what]);
            }
        }
        Check.says("5 SLOPE.");
        for (int bend = FOOT; bend <= TOP; bend++) {
            Check.due("look(" + bend + ", 5)", x.look(bend, 5), bends[bend][5]);
        }
        Check.says("Of GOODS, what 0 WEIGHT, 1 BELOW, 2 ABOVE,");
        int[][] goods = {{12, 5, 20}, {40, 30, 75}, {3, 0, 9}};
        for (int i = SALT; i <= WOOL; i++) {
            for (int what = 0; what < 3; what++) {
                Check.due("goods(" + i + ", " + what + ")", x.goods(i, what), goods[i][what]);
            }
        }
        Check.says("Of a sort of BAGS, what 0 SIZE,");
        Check.due("big", x.bag(BIG, 0), 9);
        Check.due("tiny", x.bag(TINY, 0), 4);
        Check.due("so many big", x.bag(BIG, 1), 2);
        Check.due("so many tiny", x.bag(TINY, 1), 3);
    }

    private static void forces() {
        UphillCarts x = loaded(true, true, false, 1, 1, 2);
        Check.says("LIFT of a BAG at a BEND and an HOUR:");
        int[] big = {12, 34, 38, 23};
        int[] tiny = {5, 17, 16, 11};
        for (int bend = FOOT; bend <= TOP; bend++) {
            Check.due("big at " + bend, x.lift(BIG, bend, bend), big[bend]);
            Check.due("tiny at " + bend, x.lift(TINY, bend, bend), tiny[bend]);
        }
        Check.due("big at the mill, HOUR 9", x.lift(BIG, MILL, 9), 25);
        Check.says("The law's E (what 0 lift of a BAG, 1 pull: sort isn't looked at) at a BEND and an HOUR.");
        Check.due("big", x.law(0, BIG, TOP, 3), 23);
        Check.due("tiny", x.law(0, TINY, TOP, 3), 11);
        Check.due("pull", x.law(1, BIG, TOP, 3), 41);
        Check.due("pull of sort 99", x.law(1, 99, TOP, 3), 41);
        Check.due("pull of sort -7", x.law(1, -7, MILL, 23), 73);
        Check.says("NET there: WEIGHTS of GOODS and of stones less what all BAGS LIFT.");
        int[] net = {47, 13, 10, 30};
        for (int bend = FOOT; bend <= TOP; bend++) {
            Check.due("at " + bend, x.net(bend, bend), net[bend]);
        }
        x.tie(TINY, 3);
        Check.due("three tiny ones", x.net(GATE, 2), 64 - 38 - 48);
        Check.says("PULL to a BEND (not the lowest):");
        int[] pull = {-1, 51, 62, 41};
        for (int bend = FOOT; bend <= TOP; bend++) {
            Check.due("to " + bend, x.pull(bend, bend), pull[bend]);
        }
        Check.says("A LOAD: GOODS (bits),");
        Check.due("salt and iron", x.count(11), 3);
        Check.due("one big, three tiny", x.count(12), 1 + 3 * 4);
        Check.due("stones", x.count(10), 2);
    }

    private static void ways() {
        Check.says("A WAY from an HOUR on:");
        UphillCarts x = loaded(true, true, false, 1, 0, 2);
        Check.due("41 by 41", x.led(0, 1), 1);
        Check.due("from 21 on 50 by 38", x.led(21, 1), 2);
        Check.due("at the gate", x.led(21, 0), GATE);
        Check.says("A WAY of the LOAD from an HOUR, what 0:");
        Check.due("to the top", x.led(0, 0), TOP);
        Check.due("64 by 51", loaded(true, true, false, 0, 0, 2).led(0, 0), FOOT);
        Check.due("47 by 41", loaded(true, true, false, 1, 0, 3).led(0, 0), GATE);
        Check.due("22 below 0 at the mill", loaded(true, false, false, 1, 0, 0).led(0, 0), MILL);
        Check.due("12 below 0 at the foot", loaded(false, false, false, 1, 0, 0).led(0, 0), FOOT);
        Check.says("1: 1 UP, 2 STUCK, 3 LOST.");
        Check.due("up", x.led(0, 1), 1);
        Check.due("64 by 51", loaded(true, true, false, 0, 0, 2).led(0, 1), 2);
        Check.due("47 by 41", loaded(true, true, false, 1, 0, 3).led(0, 1), 2);
        Check.due("22 below 0 at the mill", loaded(true, false, false, 1, 0, 0).led(0, 1), 3);
        Check.due("12 below 0 at the foot", loaded(false, false, false, 1, 0, 0).led(0, 1), 3);
        Check.says(": NET at the next one and the next HOUR:");
        // The BAG lifts 9 at the second BEND at HOUR 5 alone.
        x = Check.of("bend a 0;bend b 1;bag s 1 1;goods g 9 0 0;horse 1 0;law lift 9*(height=1 and hour=5);");
        x.tie(0, 1);
        x.load(0, true);
        for (int hour = 0; hour < 24; hour++) {
            Check.due("from " + hour, x.led(hour, 1), hour == 4 ? 1 : 2);
        }
        Check.says("else it is there.");
        x.at(4);
        Check.due("there", x.go(1), 1);
    }

    private static void theCart() {
        Check.says("The CART: a LOAD, a BEND, an HOUR. By call an HOUR goes by:");
        UphillCarts x = loaded(true, true, false, 1, 0, 2);
        Check.due("to the mill", x.go(1), MILL);
        Check.due("the HOUR", x.count(4), 1);
        Check.due("the BEND", x.count(5), MILL);
        Check.due("GOODS", x.count(11), 3);
        Check.due("BAGS", x.count(12), 1);
        Check.due("stones", x.count(10), 2);
        Check.says("else as on a WAY:");
        // The seed is 3: 3310558080 and nothing above 31 bits is 1163074432, by 65536 17747.
        Check.due("to the gate, 47 is below 50", x.go(1), GATE);
        Check.due("the big BAG is cut", x.count(12), 0);
        Check.due("64 by 41: it stays", x.go(1), GATE);
        Check.due("the HOUR goes by", x.count(4), 3);
        Check.due("as at each HOUR up to 23, 64 by 61", x.go(20), GATE);
        Check.due("the HOUR", x.count(4), 23);
        Check.due("two stones stay at the gate", x.trade(-2), 0);
        Check.due("52 by 38 at HOUR 0", x.go(1), GATE);
        Check.due("52 by 51 at HOUR 13", x.go(13), GATE);
        Check.due("52 by 52 at HOUR 14", x.go(1), TOP);
        Check.due("up", x.count(6), 1);
        Check.due("HOUR 14", x.count(4), 14);
    }

    private static void hours() {
        UphillCarts x = loaded(true, true, false, 1, 0, 2);
        Check.says("WHEN (bits; 0 with fewer than 2 BENDS).");
        Check.due("all but from 21 on", x.when(), 0xffffff & ~(1 << 21));
        x.stones(3);
        int due = 1 << 22;
        for (int hour = 6; hour <= 20; hour++) {
            due |= 1 << hour;
        }
        Check.due("with three stones", x.when(), due);
        Check.due("one BEND", Check.of("bend a 0;").when(), 0);
        Check.says("SPAN, what 0:");
        Check.due("first", x.span(0), 6);
        Check.due("how many", x.span(1), 15);
        x.stones(2);
        Check.due("first, across 23", x.span(0), 22);
        Check.due("how many", x.span(1), 23);
    }

    private static void mostAndToll() {
        UphillCarts x = Check.of(ROAD);
        // All GOODS weigh 55; a big BAG leaves 32 by 41 at the top, none 55 by 51 at the mill, a tiny one 44 by 41 at the top.
        Check.says("MOST from an HOUR, what 0: the sum, 1: GOODS, 2: BAGS (two bits each), 3: stones.");
        Check.due("sum", x.most(0, 0), 69);
        Check.due("GOODS", x.most(0, 1), 7);
        Check.due("BAGS", x.most(0, 2), 1);
        Check.due("stones", x.most(0, 3), 0);
        Check.says("MOST from an HOUR: LOADS whose WAY comes UP: the greatest sum of ABOVE less BELOW");
        UphillCarts y = Check.of(ROAD.replace("bag big 9 2;bag tiny 4 3;", "bag big 9 0;bag tiny 4 1;"));
        // Without big ones: a tiny one lets 52 at most come up from HOUR 0 on; salt and iron weigh just that.
        Check.due("sum", y.most(0, 0), 60);
        Check.due("GOODS", y.most(0, 1), 3);
        Check.due("BAGS", y.most(0, 2), 4);
        Check.due("stones", y.most(0, 3), 0);
        Check.says("TOLL from an HOUR: the least price 0 .. 200 for a pound");
        Check.due("3 for a pound of wool, whatever is on the CART", loaded(true, true, true, 2, 3, 9).toll(0), 3);
        Check.says("TOLL from an HOUR;");
        Check.due("3 for a pound of wool", x.toll(0), 3);
        Check.says("(the sum of ABOVE less BELOW, less the price times all WEIGHT of its GOODS).");
        Check.due("salt brings 15 by 12, iron 45 by 40", Check.of(ROAD.replace("wool 3 0 9", "wool 3 0 3")).toll(0), 2);
        Check.due("24 by 12", Check.of(ROAD.replace("wool 3 0 9", "wool 3 0 3").replace("salt 12 5 20", "salt 12 5 29")).toll(0), 2);
        Check.due("25 by 12", Check.of(ROAD.replace("wool 3 0 9", "wool 3 0 3").replace("salt 12 5 20", "salt 12 5 30")).toll(0), 3);
        Check.due("none brings more", Check.of("bend a 0;bend b 0;goods g 1 5 5;goods h 1 9 1;").toll(0), 0);
    }

    private static void ballast() {
        Check.says("BALLAST from an HOUR: GOODS and BAGS as they are; at each BEND on the WAY stones may become another number 0 .. 9");
        // With 52 and two big BAGS it needs two stones at the mill, three at the gate, and no more than five at the top.
        UphillCarts x = loaded(true, true, false, 2, 0, 2);
        Check.due("at one BEND", x.ballast(0), 1);
        Check.says("Stones behind a BEND by it");
        int[] due = {2, 3, 3, 3};
        for (int bend = FOOT; bend <= TOP; bend++) {
            Check.due("behind " + bend, x.behind(0, bend), due[bend]);
        }
        x.stones(0);
        Check.due("at the lowest", x.ballast(0), 1);
        Check.due("three from there on", x.behind(0, FOOT), 3);
        x.stones(9);
        Check.due("9 are too many", x.ballast(0), 1);
        Check.due("9 at the foot: 38 by 51 at the mill", x.behind(0, FOOT), 3);
        x.stones(4);
        Check.due("none", x.ballast(0), 0);
        Check.due("as they are", x.behind(0, TOP), 4);
        // At each HOUR ten more are lifted, and no more than five are pulled.
        x = Check.of("bend a 0;bend b 0;bend c 0;bend d 0;bag s 1 1;depot b 1;depot c 1;horse 5 0;stone 10;law lift hour*10;");
        x.tie(0, 1);
        Check.due("at three", x.ballast(0), 3);
        for (int bend = 0; bend < 4; bend++) {
            Check.due("behind " + bend, x.behind(0, bend), Math.min(3, bend + 1));
        }
        x.stones(1);
        Check.due("at two", x.ballast(0), 2);
    }

    private static void ropes() {
        // 21 and a big BAG: 9, 13 below 0, 17 below 0, 2 below 0; 8 is held, 19 with a rope.
        UphillCarts x = loaded(true, false, true, 1, 0, 1);
        Check.says("ROPES from an HOUR:");
        Check.due("lost without", x.led(0, 1), 3);
        Check.due("at the mill and the gate", x.ropes(0), 1 << MILL | 1 << GATE);
        Check.says("ROPES from an HOUR (bits);");
        x.stones(2);
        Check.due("27: at the gate alone, 11 below 0", x.ropes(0), 1 << GATE);
        x.stones(3);
        Check.due("33: none", x.ropes(0), 0);
        x.stones(0);
        Check.due("15: 23 below 0 at the gate", x.ropes(0), -2);
    }

    private static void meeting() {
        UphillCarts x = Check.of(ROAD);
        Check.says("MEET of one from the lowest BEND at an HOUR and one from the last one down at another one,"
            + " both one BEND each HOUR and never stuck,");
        // Each HOUR of both, one by one.
        for (int up = 0; up < 24; up++) {
            for (int down = 0; down < 24; down++) {
                meetsAsWalked(x, up, down);
            }
        }
        Check.says("MEET (HOURS 0 .. 23), what 0: the BEND (-2: BETWEEN, -3: not at all),");
        Check.due("at the gate", x.meet(5, 6, 0), GATE);
        Check.due("at 7", x.meet(5, 6, 1), 7);
        Check.due("between the mill and the gate", x.meet(5, 5, 0), -2);
        Check.due("behind 6", x.meet(5, 5, 1), 6);
        Check.due("up at 8, begun at 9", x.meet(5, 9, 0), -3);
        Check.due("down at 8, begun at 9", x.meet(9, 5, 0), -3);
        Check.says("WAIT: the fewest HOURS 0 .. 23 that the one from above must wait");
        Check.due("at the mill", x.waits(5, 4), 0);
        Check.due("between, at the gate, between, at the top", x.waits(5, 5), 3);
        Check.due("at the gate, between, at the top", x.waits(5, 6), 2);
        Check.due("at the foot, between, at the mill", x.waits(5, 2), 2);
        Check.due("not at all", x.waits(5, 1), 0);
    }

    private static void meetsAsWalked(UphillCarts x, int up, int down) {
        int where = -3;
        int when = -3;
        for (int hour = 0; hour < 48 && where == -3; hour++) {
            int a = hour - up;
            int b = TOP - (hour - down);
            boolean bothThere = a >= FOOT && a <= TOP && b >= FOOT && b <= TOP;
            if (bothThere && a == b) {
                where = a;
                when = hour;
            } else if (bothThere && a + 1 == b) {
                where = -2;
                when = hour;
            }
        }
        Check.due("meet(" + up + ", " + down + ", 0)", x.meet(up, down, 0), where);
        Check.due("meet(" + up + ", " + down + ", 1)", x.meet(up, down, 1), when);
    }

    private static void worthAndLands() {
        UphillCarts x = Check.of(ROAD);
        Check.says("WORTH of GOODS at a BEND: BELOW, and what ABOVE is more times (HEIGHT less that of the lowest) by"
            + " (that of the last less that of the lowest),");
        int[] iron = {30, 45, 41, 75};
        int[] wool = {0, 3, 2, 9};
        for (int bend = FOOT; bend <= TOP; bend++) {
            Check.due("iron at " + bend, x.worth(IRON, bend), iron[bend]);
            Check.due("wool at " + bend, x.worth(WOOL, bend), wool[bend]);
        }
        Check.says("LANDS: one LOST at a BEND is at 10 times its number");
        Check.due("of the foot: 3, below 0", x.lands(FOOT), 0);
        Check.due("of the mill: 23 and 16 above the foot, 9, 2, below 0", x.lands(MILL), 14);
        Check.says("then on by the WIND of");
        Check.due("of the gate: 18 and 11 above the foot", x.lands(GATE), 24);
        Check.due("of the top: 63 to 35 above the mill, 28 above the gate, 21 and 14 above the foot", x.lands(TOP), 30 - 4 + 2 + 2);
    }

    private static void seen() {
        Check.says("SEEN, at most 24, numbered from 0 on:");
        UphillCarts x = Check.of("bend a 20;goods g 7 0 0;goods h 4 0 0;bag s 5 1;stone 3;");
        Check.due("the first", x.see(0, 0, 0, 2), 0);
        Check.says("How many FITS there are.");
        Check.due("of 80", x.fits(), 5);
        int[][] due = {{0, 0, 0}, {0, 1, 4}, {1, 1, 1}, {2, 1, 2}, {3, 1, 0}};
        for (int k = 0; k < due.length; k++) {
            for (int what = 0; what < 3; what++) {
                Check.due("fit(" + k + ", " + what + ")", x.fit(k, what), due[k][what]);
            }
        }
        Check.due("the second", x.see(0, 9, 0, 0), 1);
        Check.due("of these", x.fits(), 3);
        Check.says("A STRIKE of one.");
        Check.due("the third", x.strike(1), 2);
        Check.due("as ahead of the second", x.fits(), 5);
        Check.due("the fourth", x.strike(0), 3);
        Check.due("all", x.fits(), 80);
        Check.due("the fifth strikes the third", x.strike(2), 4);
        Check.due("the second is so", x.fits(), 3);
    }

    private static void chance() {
        Check.says("In how many of ten times drawn");
        // From 1 on: 16838, 5758, 10113, 17515, 31051, 5627, 23010, 7419, 16212, 4086. Without its BAG it is stuck at b.
        UphillCarts x = Check.of("bend a 0;bend b 0;bend c 9;bag s 9 1;goods g 30 0 0;thief b 50;horse 20 10;law lift 20;");
        x.tie(0, 1);
        x.load(0, true);
        Check.due("58, 51, 86", x.chance(1), 3);
        Check.says("the CART, going on from where it is");
        x.go(1);
        boolean cut = x.count(12) == 0;
        Check.due("it is at b, where no thief comes any more", x.chance(1), cut ? 0 : 10);
    }

    private static void tried() {
        // 70 and a big BAG: stuck at the gate from HOUR 0 on.
        UphillCarts x = loaded(true, true, false, 1, 0, 3);
        Check.says("TRIED, a WAY from an HOUR:");
        Check.due("as it is", x.led(0, 0), GATE);
        Check.due("AIR 9: 29 by 41", x.tried(0, 0, 0), TOP);
        Check.due("no WIND: 41 by 41", x.tried(1, 0, 0), TOP);
        Check.due("without salt: 35 by 41", x.tried(2, SALT, 0), TOP);
        Check.due("without wool, which isn't on it", x.tried(2, WOOL, 0), GATE);
        Check.due("without big ones: 70 by 51", x.tried(3, BIG, 0), FOOT);
        Check.due("without tiny ones, which it hasn't", x.tried(3, TINY, 0), GATE);
        Check.due("without stones: 29 by 41", x.tried(4, 0, 0), TOP);
        Check.due("twice as STRONG: 47 by 101", x.tried(5, 0, 0), TOP);
        Check.due("and all is as it was", x.led(0, 0), GATE);
    }

    private static void counts() {
        UphillCarts x = loaded(true, false, true, 1, 2, 0);
        x.at(4);
        Check.says("0 BENDS, 1 GOODS, 2 sorts of BAGS, 3 KNOTS, 4 the HOUR, 5 the CART's BEND,");
        int[] due = {4, 3, 2, 18, 4, 0};
        for (int what = 0; what < due.length; what++) {
            Check.due("count(" + what + ")", x.count(what), due[what]);
        }
        Check.says("7 SEEN,");
        x.see(TOP, 23, -5, 5);
        x.strike(0);
        Check.due("one and a STRIKE", x.count(7), 2);
        Check.says("9 what can be undone, 10 its stones, 11 its GOODS (bits), 12 its BAGS (two bits each),");
        Check.due("salt, wool, a big one, tiny ones, the HOUR", x.count(9), 5);
        x.stones(7);
        Check.due("stones", x.count(10), 7);
        Check.due("GOODS", x.count(11), 5);
        Check.due("BAGS", x.count(12), 1 + 2 * 4);
    }
}
