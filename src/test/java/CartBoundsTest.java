import static java.lang.Integer.MAX_VALUE;
import static java.lang.Integer.MIN_VALUE;

/** "==== 2", "==== 4" and promises 6 to 18 and 39 to 42: each sentence that names a boundary case, under its own words. */
public final class CartBoundsTest {
    private static final long NO_LAW = Long.MIN_VALUE;
    private static final String ROAD = "bend a 0;bend b 10;bend c 20;goods g 7 1 2;goods h 9 3 4;bag s 2 2;bag t 5 0;depot b 4;";

    public static void main(String[] args) {
        looking();
        tables();
        loads();
        lift();
        pull();
        slope();
        net();
        names();
        values();
        errors();
        laws();
        loading();
        tying();
        stonesAndHour();
        fewerThanTwoBends();
        goingAway();
        lostWhereItIs();
        stuck();
        lostAtTheNext();
        upOrLost();
        thieves();
        numbers();
        noSuchGoing();
        trading();
        undoing();
        undoingTheLatestFirst();
        undoneByGoing();
        imageKeeps();
        imagesInPlace();
        counts();
        manyCalls();
        Check.end("CartBoundsTest");
    }

    /** A number far off, and those just beyond low and high. */
    private static int[] beyond(int low, int high) {
        return new int[] {low - 1, high + 1, MIN_VALUE, MAX_VALUE, MIN_VALUE + high, (1 << 30) + low};
    }

    private static void looking() {
        Check.says("IndexOutOfBoundsException: no such BEND.");
        UphillCarts x = Check.of(ROAD);
        for (int bend : beyond(0, 2)) {
            for (int what = 0; what <= 5; what++) {
                Check.due("look(" + bend + ", " + what + ")", Check.thrownByLook(x, bend, what), 1);
            }
        }
        Check.due("of a new object", Check.thrownByLook(new UphillCarts(), 0, 0), 1);
        Check.says("NoSuchElementException: no such what.");
        for (int what : beyond(0, 5)) {
            for (int bend = 0; bend <= 2; bend++) {
                Check.due("look(" + bend + ", " + what + ")", Check.thrownByLook(x, bend, what), 2);
            }
        }
        for (int what = 0; what <= 5; what++) {
            Check.due("look(2, " + what + ")", Check.thrownByLook(x, 2, what), 0);
        }
        Check.says("3 stones at the depot now");
        Check.due("without a depot", x.look(2, 3), 0);
        Check.due("full", x.look(1, 3), 4);
        x.go(1);
        x.trade(4);
        Check.due("empty", x.look(1, 3), 0);
        Check.says("4 thief");
        Check.due("without one", x.look(1, 4), 0);
        Check.due("99", Check.of("bend a 1;thief a 99;").look(0, 4), 99);
    }

    private static void tables() {
        UphillCarts x = Check.of(ROAD);
        Check.says("3 whether they are on the CART (1, 0). NONE: no such ones.");
        for (int goods : beyond(0, 1)) {
            for (int what = 0; what <= 3; what++) {
                Check.due("goods(" + goods + ", " + what + ")", x.goods(goods, what), -1);
            }
        }
        for (int what : beyond(0, 3)) {
            Check.due("goods(1, " + what + ")", x.goods(1, what), -1);
        }
        Check.due("not on it", x.goods(1, 3), 0);
        x.load(1, true);
        Check.due("on it", x.goods(1, 3), 1);
        Check.due("the other is not", x.goods(0, 3), 0);
        Check.says("1 how many there are, 2 how many the CART has. NONE: no such ones.");
        for (int sort : beyond(0, 1)) {
            for (int what = 0; what <= 2; what++) {
                Check.due("bag(" + sort + ", " + what + ")", x.bag(sort, what), -1);
            }
        }
        for (int what : beyond(0, 2)) {
            Check.due("bag(0, " + what + ")", x.bag(0, what), -1);
        }
        Check.due("there are none", x.bag(1, 1), 0);
        Check.due("it has none", x.bag(0, 2), 0);
        x.tie(0, 2);
        Check.due("it has two", x.bag(0, 2), 2);
        Check.due("there are two still", x.bag(0, 1), 2);
        UphillCarts all = Check.of("bend a 0;bag r 1 3;bag s 1 3;bag t 1 3;");
        for (int n = 1; n <= 3; n++) {
            for (int sort = 0; sort < 3; sort++) {
                all.tie(sort, n);
                Check.due("of sort " + sort, all.bag(sort, 2), n);
                Check.due("of the next one", all.bag((sort + 1) % 3, 2), sort == 2 ? n : n - 1);
            }
        }
    }

    private static void loads() {
        Check.says("of each sort of BAGS how many (two bits each, the first sort lowest; no more than there are), stones 0 .. 9");
        UphillCarts x = Check.of("bend a 0;goods f 1 0 0;goods g 2 0 0;goods h 4 0 0;goods i 8 0 0;goods j 16 0 0;goods k 32 0 0;"
            + "bag r 1 3;bag s 2 3;bag t 3 3;");
        for (int goods = 0; goods < 6; goods++) {
            x.load(goods, true);
            Check.due("bits of goods", x.count(11), (2 << goods) - 1);
            Check.due("they weigh", x.net(0, 0), (2 << goods) - 1);
        }
        int[] bags = {1, 2, 3, 7, 11, 15, 31, 47, 63};
        for (int i = 0; i < 9; i++) {
            Check.due("tied", x.tie(i / 3, i % 3 + 1), true);
            Check.due("two bits each", x.count(12), bags[i]);
        }
        x.tie(1, 0);
        Check.due("the second sort alone", x.count(12), 51);
        Check.due("all loads", x.fits(), 64 * 64 * 10);
        Check.due("the last of them", x.fit(40959, 0), 63);
        Check.due("the last of them", x.fit(40959, 1), 63);
        Check.due("the last of them", x.fit(40959, 2), 9);
        Check.due("no more", x.fit(40960, 0), -2);
        Check.due("no more than there are", Check.of("bag s 1 1;bag t 1 2;").fits(), 60);
        Check.due("none there", Check.of("bag s 1 0;").fits(), 10);
    }

    private static long lifted(String e) {
        return Check.of("bend a 55;bag s 3 1;law lift " + e + ";").lift(0, 0, 0);
    }

    private static void lift() {
        Check.says("E of lift (0 .. 99;");
        Check.due("0", lifted("0"), 0);
        Check.due("99", lifted("99"), 99);
        Check.due("100", lifted("100"), 99);
        Check.due("-1", lifted("0-1"), 0);
        Check.due("10 to the 12", lifted("1000*1000*1000*1000"), 99);
        Check.due("below 0 by it", lifted("0-1000*1000*1000*1000"), 0);
        Check.due("4294967296 + 5", lifted("4096*4096*256+5"), 99);
        Check.says("SIZE times HEIGHT by 10, cut, without, with an ERROR");
        Check.due("with an error", lifted("1/0"), 16);
        Check.due("with an error", lifted("1000*1000*1000*1001"), 16);
        UphillCarts x = Check.of("bend a 9;bend b 10;bend c 19;bend d 99;bend e 0;bag s 1 1;bag t 9 1;law pull 1;");
        int[] one = {0, 1, 1, 9, 0};
        int[] nine = {8, 9, 17, 89, 0};
        for (int bend = 0; bend < 5; bend++) {
            Check.due("of 1 at " + bend, x.lift(0, bend, 23), one[bend]);
            Check.due("of 9 at " + bend, x.lift(1, bend, 0), nine[bend]);
        }
        Check.says("LIFT of one BAG at a BEND and an HOUR 0 .. 23; NONE: no such ones.");
        for (int sort : beyond(0, 1)) {
            Check.due("lift(" + sort + ", 0, 0)", x.lift(sort, 0, 0), -1);
        }
        for (int bend : beyond(0, 4)) {
            Check.due("lift(0, " + bend + ", 0)", x.lift(0, bend, 0), -1);
        }
        for (int hour : beyond(0, 23)) {
            Check.due("lift(0, 0, " + hour + ")", x.lift(0, 0, hour), -1);
        }
        Check.due("of a sort of which there is none", Check.of("bend a 50;bag s 2 0;").lift(0, 0, 0), 10);
        Check.due("of a new object", new UphillCarts().lift(0, 0, 0), -1);
    }

    private static long pulled(String horse, String e) {
        return Check.of("bend a 0;bend b 41;horse " + horse + ";law pull " + e + ";").pull(1, 0);
    }

    private static void pull() {
        Check.says("E of pull (0 .. 999;");
        Check.due("0", pulled("50 1", "0"), 0);
        Check.due("999", pulled("50 1", "999"), 999);
        Check.due("1000", pulled("50 1", "1000"), 999);
        Check.due("-1", pulled("50 1", "0-1"), 0);
        Check.due("10 to the 12", pulled("50 1", "1000*1000*1000*1000"), 999);
        Check.due("below 0 by it", pulled("50 1", "0-1000*1000*1000*1000"), 0);
        Check.says("STRONG less SLOPE by 2, cut, 0 at least, without, with an ERROR");
        Check.due("50 less 20", pulled("50 1", "1/0"), 30);
        Check.due("20 less 20", pulled("20 1", "1/0"), 0);
        Check.due("19 less 20", pulled("19 1", "1/0"), 0);
        Check.due("1 less 20", pulled("1 1", "1/0"), 0);
        Check.due("199 less 20", pulled("199 1", "1/0"), 179);
        UphillCarts x = Check.of("bend a 0;bend b 1;bend c 3;bend d 99;bend e 99;bend f 0;horse 50 1;law lift 1;");
        int[] pulls = {-1, 50, 49, 2, 50, 50};
        for (int bend = 0; bend < 6; bend++) {
            Check.due("to " + bend, x.pull(bend, 23), pulls[bend]);
        }
        Check.says("PULL to a BEND (AIR, hour of an HOUR 0 .. 23); NONE: no such ones, the lowest.");
        for (int bend : beyond(0, 5)) {
            Check.due("pull(" + bend + ", 0)", x.pull(bend, 0), -1);
        }
        for (int hour : beyond(0, 23)) {
            Check.due("pull(1, " + hour + ")", x.pull(1, hour), -1);
        }
        Check.due("the lowest", x.pull(0, 0), -1);
        Check.due("one bend", Check.of("bend a 0;law pull 5;").pull(0, 0), -1);
        Check.due("of a new object", new UphillCarts().pull(1, 0), -1);
    }

    private static void slope() {
        Check.says("SLOPE: how much higher it is than the one below it (0 at least)");
        UphillCarts x = Check.of("bend a 50;bend b 51;bend c 51;bend d 50;bend e 0;bend f 99;");
        int[] slopes = {0, 1, 0, 0, 0, 99};
        for (int bend = 0; bend < 6; bend++) {
            Check.due("to " + bend, x.look(bend, 5), slopes[bend]);
        }
    }

    private static void net() {
        Check.says("NET of the CART's LOAD at a BEND and an HOUR 0 .. 23; Integer.MIN_VALUE: no such ones.");
        UphillCarts x = Check.of("bend a 0;bend b 99;goods f 60 0 0;goods g 60 0 0;goods h 60 0 0;goods i 60 0 0;goods j 60 0 0;goods k 60 0 0;"
            + "bag r 9 3;bag s 9 3;bag t 9 3;stone 20;law lift height;");
        Check.due("nothing on it", x.net(1, 0), 0);
        x.tie(0, 3);
        x.tie(1, 3);
        x.tie(2, 3);
        Check.due("the least", x.net(1, 23), -891);
        Check.due("nothing lifts", x.net(0, 23), 0);
        for (int goods = 0; goods < 6; goods++) {
            x.load(goods, true);
        }
        x.stones(9);
        Check.due("the most", x.net(0, 0), 540);
        Check.due("both", x.net(1, 0), -351);
        for (int bend : beyond(0, 1)) {
            Check.due("net(" + bend + ", 0)", x.net(bend, 0), MIN_VALUE);
        }
        for (int hour : beyond(0, 23)) {
            Check.due("net(0, " + hour + ")", x.net(0, hour), MIN_VALUE);
        }
        Check.due("of a new object", new UphillCarts().net(0, 0), MIN_VALUE);
        Check.due("of one bend", Check.of("bend a 1;").net(0, 0), 0);
    }

    private static void names() {
        UphillCarts x = Check.of("bend a 5 wind 9;bend b 3 wind -9;bend c 8;bag s 4 1;bag t 9 0;horse 77 1;warm 1 2 3;"
            + "law lift size+height*100;law pull size+gust*1000;");
        Check.says("size: of the BAG (of pull: STRONG)");
        Check.due("of the bag", x.law(0, 1, 0, 0), 509);
        Check.due("of pull", x.law(1, 0, 2, 0), 77);
        Check.says("gust (WIND without sign) of the BEND");
        Check.due("-9", x.law(1, 0, 1, 0), 9077);
        Check.due("9", Check.of("bend a 0;bend b 3 wind 9;law pull gust;").law(1, 0, 1, 0), 9);
        Check.says("slope: SLOPE to the BEND (0 of the lowest)");
        x = Check.of("bend a 50;bend b 20;bend c 99;bag s 1 1;law lift slope;law pull slope;");
        Check.due("of the lowest", x.law(0, 0, 0, 0), 0);
        Check.due("down", x.law(0, 0, 1, 0), 0);
        Check.due("up", x.law(0, 0, 2, 0), 79);
        Check.due("of pull", x.law(1, 0, 2, 0), 79);
        Check.says("air: AIR of the HOUR; hour");
        x = Check.of("bend a 0;bend b 0;bag s 1 1;warm 0 9" + " 1".repeat(21) + " 7;law lift air*100+hour;law pull hour*100+air;");
        int[] airs = {0, 901, 102, 723};
        int[] hours = {0, 1, 2, 23};
        for (int i = 0; i < 4; i++) {
            Check.due("at hour " + hours[i], x.law(0, 0, 0, hours[i]), airs[i]);
            Check.due("of pull at hour " + hours[i], x.law(1, 0, 1, hours[i]), hours[i] * 100 + airs[i] / 100);
        }
    }

    private static long worked(String e) {
        return Check.of("bend a 0;bag s 1 1;law lift " + e + ";").law(0, 0, 0, 0);
    }

    private static void values() {
        Check.says("comparisons, and, or, not are 1 or 0 (what isn't 0 is as 1, both sides are worked out)");
        String[] signs = {"<", "<=", "=", "<>", ">=", ">"};
        int[][] due = {{1, 0, 0}, {1, 1, 0}, {0, 1, 0}, {1, 0, 1}, {0, 1, 1}, {0, 0, 1}};
        for (int i = 0; i < 6; i++) {
            for (int right = 2; right >= 0; right--) {
                Check.due("1" + signs[i] + right, worked("1" + signs[i] + right), due[i][2 - right]);
            }
        }
        String[] values = {"0", "1", "7", "(0-7)"};
        for (int a = 0; a < 4; a++) {
            Check.due("not " + values[a], worked("not " + values[a]), a == 0 ? 1 : 0);
            for (int b = 0; b < 4; b++) {
                Check.due(values[a] + " and " + values[b], worked(values[a] + " and " + values[b]), a > 0 && b > 0 ? 1 : 0);
                Check.due(values[a] + " or " + values[b], worked(values[a] + " or " + values[b]), a > 0 || b > 0 ? 1 : 0);
            }
        }
        Check.due("0 and an error", worked("0 and 1/0"), NO_LAW);
        Check.due("1 or an error", worked("1 or 1/0"), NO_LAW);
        Check.due("an error or 1", worked("1/0 or 1"), NO_LAW);
        Check.due("not an error", worked("not 1/0"), NO_LAW);
        Check.due("compared with an error", worked("1<1/0"), NO_LAW);
        Check.due("0 times an error", worked("0*(1/0)"), NO_LAW);
        Check.due("63 times not", worked("not ".repeat(63) + "1"), 0);
        Check.due("62 times not", worked("not ".repeat(62) + "1"), 1);
        Check.says("/ is cut towards 0");
        Check.due("7/2", worked("7/2"), 3);
        Check.due("-7/2", worked("(0-7)/2"), -3);
        Check.due("7/-2", worked("7/(0-2)"), -3);
        Check.due("-7/-2", worked("(0-7)/(0-2)"), 3);
        Check.due("-1/2", worked("(0-1)/2"), 0);
        Check.due("0/5", worked("0/5"), 0);
    }

    private static void errors() {
        Check.says("ERROR: / by 0, a value above 10 to the 12 or below 0 by more than that");
        String most = "1000*1000*1000*1000";
        Check.due("/ by 0", worked("5/0"), NO_LAW);
        Check.due("0 / by 0", worked("0/0"), NO_LAW);
        Check.due("/ by what comes to 0", worked("5/(1-1)"), NO_LAW);
        Check.due("10 to the 12", worked(most), 1000000000000L);
        Check.due("one more", worked(most + "+1"), NO_LAW);
        Check.due("one more and one less", worked(most + "+1-1"), NO_LAW);
        Check.due("one less and one more", worked(most + "-1+1"), 1000000000000L);
        Check.due("below 0", worked("0-" + most), -1000000000000L);
        Check.due("one more below 0", worked("0-" + most + "-1"), NO_LAW);
        Check.due("times -1", worked(most + "*(0-1)"), -1000000000000L);
        Check.due("by -1", worked(most + "/(0-1)"), -1000000000000L);
        Check.due("times 2", worked(most + "*2"), NO_LAW);
        Check.due("times 10 to the 12", worked(most + "*(" + most + ")"), NO_LAW);
        Check.due("-10 to the 12 times 10 to the 12", worked("(0-" + most + ")*(" + most + ")"), NO_LAW);
        Check.due("below 0 twice", worked("(0-" + most + ")*(0-" + most + ")"), NO_LAW);
        // Products that would wrap around to something small again.
        Check.due("2 to the 64", worked("4096*4096*256*(4096*4096*256)"), NO_LAW);
        Check.due("2 to the 65", worked("4096*4096*512*(4096*4096*256)"), NO_LAW);
        Check.due("2 to the 63", worked("4096*4096*128*(4096*4096*256)"), NO_LAW);
        Check.due("2 to the 39", worked("4096*4096*4096*8"), 549755813888L);
        Check.due("2 to the 40", worked("4096*4096*4096*16"), NO_LAW);
        Check.due("a comparison of an error", worked("(" + most + "+1)>0"), NO_LAW);
        Check.due("0 times 10 to the 12", worked("0*(" + most + ")"), 0);
        Check.due("10 to the 12 times 0", worked(most + "*0"), 0);
        Check.due("9999 four times", worked("9999*9999*9999"), 999700029999L);
        Check.due("and once more", worked("9999*9999*9999*2"), NO_LAW);
    }

    private static void laws() {
        Check.says("Long.MIN_VALUE: an ERROR, no such law, no such ones (of pull the lowest).");
        String road = "bend a 3;bend b 20;bag s 4 1;";
        UphillCarts x = Check.of(road + "law lift 0-5;law pull 0-6;");
        Check.due("lift", x.law(0, 0, 0, 0), -5);
        Check.due("pull", x.law(1, 0, 1, 23), -6);
        Check.due("of pull the lowest", x.law(1, 0, 0, 0), NO_LAW);
        for (int what : beyond(0, 1)) {
            Check.due("law(" + what + ", 0, 1, 0)", x.law(what, 0, 1, 0), NO_LAW);
        }
        for (int sort : beyond(0, 0)) {
            Check.due("law(0, " + sort + ", 1, 0)", x.law(0, sort, 1, 0), NO_LAW);
            Check.due("sort isn't looked at", x.law(1, sort, 1, 0), -6);
        }
        for (int bend : beyond(0, 1)) {
            Check.due("law(0, 0, " + bend + ", 0)", x.law(0, 0, bend, 0), NO_LAW);
            Check.due("law(1, 0, " + bend + ", 0)", x.law(1, 0, bend, 0), NO_LAW);
        }
        for (int hour : beyond(0, 23)) {
            Check.due("law(0, 0, 1, " + hour + ")", x.law(0, 0, 1, hour), NO_LAW);
            Check.due("law(1, 0, 1, " + hour + ")", x.law(1, 0, 1, hour), NO_LAW);
        }
        Check.due("no law of lift", Check.of(road + "law pull 1;").law(0, 0, 1, 0), NO_LAW);
        Check.due("no law of pull", Check.of(road + "law lift 1;").law(1, 0, 1, 0), NO_LAW);
        Check.due("an error", Check.of(road + "law pull 1/0;").law(1, 0, 1, 0), NO_LAW);
        Check.due("pull without any bag", Check.of("bend a 0;bend b 0;law pull 8;").law(1, 0, 1, 0), 8);
        Check.due("not brought to 0 .. 99", Check.of(road + "law lift 100;").law(0, 0, 1, 0), 100);
        Check.due("not brought to 0 .. 999", Check.of(road + "law pull 1000;").law(1, 0, 1, 0), 1000);
    }

    private static UphillCarts lost() {
        UphillCarts x = Check.of("bend a 90;bend b 90;goods g 7 1 2;bag s 9 2;");
        x.tie(0, 1);
        x.go(1);
        Check.due("it is lost at the lowest bend", x.count(6) * 10 + x.count(5), 30);
        return x;
    }

    private static UphillCarts onItsWay() {
        UphillCarts x = Check.of(ROAD);
        x.load(0, true);
        x.go(1);
        Check.due("it is on its way", x.count(6) * 10 + x.count(5), 1);
        return x;
    }

    private static void loading() {
        Check.says("GOODS are on the CART, or aren't: true; false: no such ones, it is so, it isn't at the lowest BEND, it is LOST.");
        UphillCarts x = Check.of(ROAD);
        Check.due("load(0, true)", x.load(0, true), true);
        Check.due("load(1, true)", x.load(1, true), true);
        Check.due("both", x.count(11), 3);
        Check.due("load(0, false)", x.load(0, false), true);
        Check.due("one", x.count(11), 2);
        for (int goods : beyond(0, 1)) {
            Check.refused(x, "load(" + goods + ", true)", () -> x.load(goods, true));
        }
        Check.refused(x, "load(2, false)", () -> x.load(2, false));
        Check.refused(x, "it is so", () -> x.load(1, true));
        Check.refused(x, "it isn't", () -> x.load(0, false));
        UphillCarts y = onItsWay();
        Check.refused(y, "not at the lowest", () -> y.load(1, true));
        Check.refused(y, "not at the lowest", () -> y.load(0, false));
        y.go(1);
        Check.refused(y, "up", () -> y.load(1, true));
        UphillCarts z = lost();
        Check.refused(z, "lost", () -> z.load(0, true));
        Check.refused(new UphillCarts(), "new", () -> new UphillCarts().load(0, true));
    }

    private static void tying() {
        Check.says("So many BAGS of a sort are tied: true; false: no such ones, not so many, it is so, it isn't at the lowest BEND, it is LOST.");
        UphillCarts x = Check.of(ROAD);
        Check.due("two", x.tie(0, 2), true);
        Check.due("one", x.tie(0, 1), true);
        Check.due("one", x.count(12), 1);
        Check.refused(x, "three of two", () -> x.tie(0, 3));
        Check.refused(x, "one of none", () -> x.tie(1, 1));
        Check.refused(x, "none of none, as it is", () -> x.tie(1, 0));
        Check.refused(x, "it is so", () -> x.tie(0, 1));
        for (int n : beyond(0, 3)) {
            Check.refused(x, "tie(0, " + n + ")", () -> x.tie(0, n));
        }
        UphillCarts w = Check.of(ROAD);
        for (int sort : beyond(0, 1)) {
            Check.refused(w, "tie(" + sort + ", 0)", () -> w.tie(sort, 0));
            Check.refused(w, "tie(" + sort + ", 1)", () -> w.tie(sort, 1));
        }
        UphillCarts y = onItsWay();
        Check.refused(y, "not at the lowest", () -> y.tie(0, 1));
        UphillCarts z = lost();
        Check.refused(z, "lost", () -> z.tie(0, 2));
        Check.refused(z, "lost", () -> z.tie(0, 0));
        UphillCarts all = Check.of("bend a 0;bag r 1 3;bag s 1 3;bag t 1 3;");
        Check.due("three", all.tie(2, 3), true);
        Check.refused(all, "a fourth", () -> all.tie(2, 4));
    }

    private static void stonesAndHour() {
        Check.says("So many stones 0 .. 9 are on it: true; false: likewise.");
        UphillCarts x = Check.of(ROAD);
        Check.refused(x, "none, as it is", () -> x.stones(0));
        Check.due("nine", x.stones(9), true);
        Check.due("nine", x.count(10), 9);
        Check.refused(x, "it is so", () -> x.stones(9));
        for (int n : beyond(0, 9)) {
            Check.refused(x, "stones(" + n + ")", () -> x.stones(n));
        }
        Check.due("none", x.stones(0), true);
        UphillCarts y = onItsWay();
        Check.refused(y, "not at the lowest", () -> y.stones(1));
        UphillCarts z = lost();
        Check.refused(z, "lost", () -> z.stones(1));
        Check.says("It is that HOUR 0 .. 23: true; false: likewise.");
        UphillCarts w = Check.of(ROAD);
        Check.refused(w, "hour 0, as it is", () -> w.at(0));
        Check.due("at(23)", w.at(23), true);
        Check.due("23", w.count(4), 23);
        Check.refused(w, "it is so", () -> w.at(23));
        for (int hour : beyond(0, 23)) {
            Check.refused(w, "at(" + hour + ")", () -> w.at(hour));
        }
        Check.due("at(0)", w.at(0), true);
        Check.refused(y, "not at the lowest", () -> y.at(5));
        Check.refused(z, "lost", () -> z.at(5));
    }

    private static void fewerThanTwoBends() {
        Check.says("With fewer than 2 BENDS there is none.");
        for (int i = 0; i < 4; i++) {
            UphillCarts x = Check.of(i < 2 ? "" : "bend a 90;bag s 9 3;goods g 1 1 9;depot a 3;");
            Check.due("stones", x.stones(3), true);
            int h = i % 2 * 23;
            Check.refused(x, "led", () -> x.led(h, 0), -1);
            Check.refused(x, "led", () -> x.led(h, 1), -1);
            Check.refused(x, "most", () -> x.most(h, 0), -1);
            Check.refused(x, "ballast", () -> x.ballast(h), -1);
            Check.refused(x, "behind", () -> x.behind(h, 0), -1);
            Check.refused(x, "ropes", () -> x.ropes(h), -1);
            Check.refused(x, "meet", () -> x.meet(h, h, 0), -1);
            Check.refused(x, "waits", () -> x.waits(h, h), -1);
            Check.refused(x, "toll", () -> x.toll(h), -1);
            Check.refused(x, "chance", () -> x.chance(h), -1);
            Check.refused(x, "tried", () -> x.tried(4, 0, h), -1);
            Check.refused(x, "go", () -> x.go(h), -1);
            Check.due("when", x.when(), 0);
            Check.due("span(0)", x.span(0), -1);
            Check.due("span(1)", x.span(1), 0);
            Check.due("span(2)", x.span(2), -1);
            Check.due("trade", x.trade(-1), -1);
            Check.due("neither up nor lost", x.count(6), 0);
            Check.due("undo", x.undo(), 0);
        }
        UphillCarts two = Check.of("bend a 0;bend b 0;");
        Check.due("two are enough", two.led(0, 1), 1);
        Check.due("two are enough", two.go(1), 1);
        Check.due("up", two.count(6), 1);
    }

    private static void goingAway() {
        Check.says("Then one BEND each HOUR (23 is followed by 0)");
        UphillCarts x = Check.of("bend a 0;bend b 0;bend c 0;");
        x.at(22);
        Check.due("go", x.go(1), 1);
        Check.due("23", x.count(4), 23);
        Check.due("go", x.go(1), 2);
        Check.due("0", x.count(4), 0);
        // The next HOUR's AIR is that of 0.
        x = Check.of("bend a 0;bend b 0;goods g 5 0 0;law pull 5*(hour=0);");
        x.load(0, true);
        x.at(23);
        Check.due("pulled at 0", x.go(1), 1);
        x = Check.of("bend a 0;bend b 0;goods g 5 0 0;law pull 5*(hour=23);");
        x.load(0, true);
        x.at(23);
        Check.due("not at 23", x.go(1), 0);
        Check.says("So many HOURS (0 .. 50) go by for the CART: at which BEND it is then");
        UphillCarts y = Check.of("bend a 0;bend b 0;bend c 0;bend d 0;");
        y.stones(2);
        Check.refused(y, "go(0)", () -> y.go(0), 0);
        Check.due("go(2)", y.go(2), 2);
        Check.due("hour", y.count(4), 2);
        Check.refused(y, "go(0)", () -> y.go(0), 2);
        Check.due("go(1)", y.go(1), 3);
        Check.due("up", y.count(6), 1);
        Check.says("At the last one it is UP.");
        Check.due("all at once", Check.of("bend a 0;bend b 0;bend c 0;bend d 0;").go(50), 3);
    }

    private static void lostWhereItIs() {
        Check.says("if NET where it is at this HOUR is below 0 by more than the horse HOLDS, it is LOST there (the HOUR doesn't go by)");
        // A BAG lifts as much as the HOUR tells, 7 are held.
        String road = "bend a 0;bend b 0;bend c 0;bag s 1 1;horse 9 7;law lift hour;";
        UphillCarts x = Check.of(road);
        x.tie(0, 1);
        x.at(8);
        Check.due("8", x.go(1), -2);
        Check.due("bend", x.count(5), 0);
        Check.due("hour", x.count(4), 8);
        Check.due("lost", x.count(6), 3);
        x = Check.of(road);
        x.tie(0, 1);
        x.at(23);
        Check.due("23, though 0 would follow", x.go(1), -2);
        Check.due("hour", x.count(4), 23);
        x = Check.of(road);
        x.tie(0, 1);
        x.at(6);
        Check.due("7 are held", x.go(1), 1);
        Check.due("hour", x.count(4), 7);
        Check.due("on its way", x.count(6), 0);
        Check.due("8 are not, at the next", x.go(1), -2);
        Check.due("bend", x.count(5), 2);
        // On its way: stones left there make it too light where it is.
        x = Check.of("bend a 0;bend b 0;bend c 0;bag s 1 1;horse 9 7;stone 1;law lift 9*(height=0);");
        x.tie(0, 1);
        x.stones(2);
        Check.due("9 less 2", x.go(1), 1);
        Check.due("trade", x.trade(-1), 1);
        Check.due("8", x.go(5), -2);
        Check.due("there", x.count(5), 1);
        Check.due("hour", x.count(4), 1);
        Check.says("-2: it is LOST");
        Check.due("go(0)", x.go(0), -2);
        Check.due("go(50)", x.go(50), -2);
    }

    private static void stuck() {
        Check.says("if it is above PULL, it is STUCK where it is");
        UphillCarts x = Check.of("bend a 0;bend b 0;bend c 0;goods g 20 0 0;goods h 1 0 0;law pull 20;");
        x.load(0, true);
        Check.due("20 by 20", x.go(1), 1);
        x = Check.of("bend a 0;bend b 0;bend c 0;goods g 20 0 0;goods h 1 0 0;law pull 20;");
        x.load(0, true);
        x.load(1, true);
        Check.due("21 by 20", x.go(1), 0);
        Check.due("0 by 0", Check.of("bend a 0;bend b 0;law pull 0;").go(1), 1);
        Check.says("STUCK it stays and the HOUR goes by");
        Check.due("hour", x.count(4), 1);
        Check.due("neither up nor lost", x.count(6), 0);
        Check.due("it stays", x.go(50), 0);
        Check.due("51 hours", x.count(4), 3);
        Check.due("it can be loaded still", x.load(1, false), true);
        Check.due("and goes", x.go(1), 1);
        Check.due("hour", x.count(4), 4);
        // Stuck at night, it goes on when it is day.
        x = Check.of("bend a 0;bend b 0;bend c 0;goods g 20 0 0;law pull 20*(hour>5 and hour<8);");
        x.load(0, true);
        Check.due("at hour 5", x.go(5), 0);
        Check.due("at hour 6", x.go(1), 1);
        Check.due("at hour 7", x.go(1), 2);
    }

    private static void lostAtTheNext() {
        Check.says("if it is below 0 by more than it HOLDS, it is LOST at the next one");
        UphillCarts x = Check.of("bend a 0;bend b 70;bend c 0;bag s 1 1;horse 9 7;");
        x.tie(0, 1);
        Check.due("7 by 7", x.go(1), 1);
        x = Check.of("bend a 0;bend b 80;bend c 0;bag s 1 1;horse 9 7;");
        x.tie(0, 1);
        x.at(23);
        Check.due("8 by 7", x.go(1), -2);
        Check.due("at the next one", x.count(5), 1);
        Check.due("the hour has gone by", x.count(4), 0);
        Check.due("lost", x.count(6), 3);
        x = Check.of("bend a 0;bend b 10;bag s 1 1;horse 9 0;");
        x.tie(0, 1);
        Check.due("1 by 0, at the last", x.go(1), -2);
        Check.due("lost, not up", x.count(6), 3);
    }

    private static void upOrLost() {
        Check.says("UP or LOST it goes no further (no HOUR goes by).");
        UphillCarts x = Check.of("bend a 0;bend b 0;");
        x.at(5);
        Check.due("up", x.go(1), 1);
        Check.refused(x, "go(1)", () -> x.go(1), 1);
        Check.refused(x, "go(50)", () -> x.go(50), 1);
        Check.due("hour", x.count(4), 6);
        UphillCarts y = Check.of("bend a 0;bend b 80;bend c 0;bag s 2 1;");
        y.tie(0, 1);
        Check.due("lost", y.go(1), -2);
        Check.refused(y, "go(1)", () -> y.go(1), -2);
        Check.refused(y, "go(50)", () -> y.go(50), -2);
        UphillCarts z = lost();
        Check.refused(z, "lost at the lowest", () -> z.go(50), -2);
        // Too light there at that HOUR: but UP it is.
        UphillCarts w = Check.of("bend a 0;bend b 0;bag s 1 1;horse 9 0;law lift hour=3;");
        w.tie(0, 1);
        w.at(1);
        Check.due("up at 2", w.go(1), 1);
        Check.refused(w, "and stays", () -> w.go(2), 1);
    }

    private static int firstSeed(int draw, int low, int high) {
        for (int seed = 0; seed < 99999; seed++) {
            int number = Check.numbers(seed, draw)[draw - 1] % 100;
            if (number >= low && number <= high) {
                return seed;
            }
        }
        return -1;
    }

    private static UphillCarts robbed(String thieves, int seed, int... tied) {
        UphillCarts x = Check.of("bend a 0;bend b 0;bend c 0;bend d 0;bag r 1 3;bag s 1 3;bag t 1 3;" + thieves + "seed " + seed + ";");
        for (int sort = 0; sort < tied.length; sort++) {
            x.tie(sort, tied[sort]);
        }
        return x;
    }

    private static void thieves() {
        Check.says("a number modulo 100: if that is below, one BAG of the first sort that it has is cut");
        for (int thief = 1; thief <= 99; thief += 14) {
            UphillCarts x = robbed("thief b " + thief + ";", firstSeed(1, thief - 1, thief - 1), 1, 1, 1);
            x.go(1);
            Check.due("one below " + thief, x.count(12), 20);
            x = robbed("thief b " + thief + ";", firstSeed(1, thief, thief), 1, 1, 1);
            x.go(1);
            Check.due(thief + " itself", x.count(12), 21);
        }
        int low = firstSeed(1, 0, 0);
        int[][] tied = {{3, 3, 3}, {1, 2, 3}, {0, 2, 1}, {0, 0, 3}, {0, 0, 1}, {0, 0, 0}};
        int[] then = {62, 56, 20, 32, 0, 0};
        for (int i = 0; i < tied.length; i++) {
            UphillCarts x = robbed("thief b 99;", low, tied[i]);
            x.go(1);
            Check.due("of the first sort that it has, " + i, x.count(12), then[i]);
        }
        Check.says("a thief above 0");
        UphillCarts x = robbed("thief a 99;thief b 0;thief c 99;", low, 1);
        x.go(1);
        Check.due("of 0 none is drawn, at the lowest none", x.count(12), 1);
        x.go(1);
        Check.due("the first number comes at c", x.count(12), 0);
        Check.says("(none: the number is drawn all the same)");
        int seed = firstSeed(2, 99, 99);
        UphillCarts without = robbed("thief b 99;thief c 99;thief d 99;", seed);
        without.keep();
        without.go(1);
        Check.due("nothing to cut", without.count(12), 0);
        without.back();
        // One BAG, cut at b by the first number unless that is 99; with two, the second number, 99, cuts none at c.
        without.tie(0, 2);
        without.go(2);
        Check.due("the second is 99", without.count(12), Check.numbers(seed, 1)[0] % 100 < 99 ? 1 : 2);
        Check.says("where it comes (not LOST)");
        drawnWhereItComes();
    }

    /** By chance() ten times draw one behind another, so that it shows how many numbers each one took. */
    private static void drawnWhereItComes() {
        // With its BAG it is LOST at c; without it comes to c, where a number is drawn, and UP at d.
        UphillCarts lost = Check.of("bend a 0;bend b 0;bend c 90;bend d 0;bag s 2 1;thief b 50;thief c 50;");
        lost.tie(0, 1);
        // With its BAG it weighs 5, without 10: STUCK at a until hour 3; then UP, or STUCK at b.
        UphillCarts stuck = Check.of("bend a 0;bend b 0;bend c 1;goods g 10 0 0;bag s 1 1;thief a 99;thief b 50;law lift 5;"
            + "law pull 9*(hour=3)*(height=0)+7*(height>0);");
        stuck.load(0, true);
        stuck.tie(0, 1);
        // Cut at b it is STUCK there, else it comes to c, where a number is drawn, and is UP.
        UphillCarts up = Check.of("bend a 0;bend b 0;bend c 0;goods g 10 0 0;bag s 1 1;thief b 50;thief c 50;law lift 5;law pull 5;");
        up.load(0, true);
        up.tie(0, 1);
        for (int seed = 0; seed < 40; seed++) {
            int[] numbers = Check.numbers(seed, 20);
            int next = 0;
            int ups = 0;
            int whole = 0;
            for (int time = 0; time < 10; time++) {
                boolean cut = numbers[next++] % 100 < 50;
                next += cut ? 1 : 0;
                ups += cut ? 1 : 0;
                whole += numbers[time] % 100 < 50 ? 0 : 1;
            }
            Check.due("lost at c draws none there, seed " + seed, lost.chance(seed), ups);
            Check.due("stuck draws none, seed " + seed, stuck.chance(seed), whole);
            next = 0;
            ups = 0;
            for (int time = 0; time < 10; time++) {
                boolean cut = numbers[next++] % 100 < 50;
                next += cut ? 0 : 1;
                ups += cut ? 0 : 1;
            }
            Check.due("one at b, one at c if it comes there, seed " + seed, up.chance(seed), ups);
        }
    }

    private static void numbers() {
        Check.says("Numbers are the last one (at first the seed) times 1103515245 and 12345, without what is above 31 bits, by 65536.");
        // Of seed 0: 12345 by 65536 is 0. Of seed 1: 1103527590 by 65536 is 16838. Of seed 99999: worked out apart.
        Check.due("of 0", Check.numbers(0, 1)[0], 0);
        Check.due("of 1", Check.numbers(1, 1)[0], 16838);
        long last = 99999L * 1103515245L + 12345L;
        Check.due("of 99999", Check.numbers(99999, 1)[0], (last - (last >> 31 << 31)) / 65536);
        UphillCarts x = robbed("thief b 1;thief c 38;thief d 39;", 0, 3);
        x.go(1);
        Check.due("0 is below 1", x.count(12), 2);
        x = robbed("thief b 38;", 1, 3);
        x.go(1);
        Check.due("38 is not below 38", x.count(12), 3);
        x = robbed("thief b 39;", 1, 3);
        x.go(1);
        Check.due("38 is below 39", x.count(12), 2);
    }

    private static void noSuchGoing() {
        Check.says("NONE: no such number, fewer than 2 BENDS.");
        UphillCarts x = Check.of(ROAD);
        x.stones(2);
        for (int n : beyond(0, 50)) {
            Check.refused(x, "go(" + n + ")", () -> x.go(n), -1);
        }
        Check.due("go(50)", x.go(50), 2);
        for (int n : beyond(0, 50)) {
            Check.refused(x, "up, go(" + n + ")", () -> x.go(n), -1);
        }
        UphillCarts y = lost();
        Check.refused(y, "lost, go(51)", () -> y.go(51), -1);
        Check.refused(y, "lost, go(-1)", () -> y.go(-1), -1);
    }

    private static void trading() {
        UphillCarts x = Check.of("bend a 0;bend b 0;bend c 0;bend d 0;depot a 9;depot b 4;depot d 9;stone 1;");
        x.stones(3);
        Check.says("Stones are traded where the CART is (not the lowest BEND, not LOST, not UP)");
        Check.refused(x, "the lowest", () -> x.trade(1), -1);
        Check.refused(x, "the lowest", () -> x.trade(-1), -1);
        x.go(1);
        Check.says("NONE: no such n, not so many there, above 9, below 0");
        for (int n : beyond(-9, 9)) {
            Check.refused(x, "trade(" + n + ")", () -> x.trade(n), -1);
        }
        Check.refused(x, "trade(0)", () -> x.trade(0), -1);
        Check.refused(x, "five of four", () -> x.trade(5), -1);
        Check.refused(x, "nine of four", () -> x.trade(9), -1);
        Check.refused(x, "below 0", () -> x.trade(-4), -1);
        Check.refused(x, "below 0", () -> x.trade(-9), -1);
        tradedStones();
        tradedWhereItIs();
    }

    private static void tradedStones() {
        UphillCarts x = Check.of("bend a 0;bend b 0;bend c 0;bend d 0;depot a 9;depot b 4;depot d 9;stone 1;");
        x.stones(3);
        x.go(1);
        Check.says("n more (1 .. 9) of the depot's, or less (-9 .. -1; the depot has them then, 99 at most): how many the CART has");
        Check.due("all four", x.trade(4), 7);
        Check.due("the depot is empty", x.look(1, 3), 0);
        Check.refused(x, "one of none", () -> x.trade(1), -1);
        Check.due("all seven", x.trade(-7), 0);
        Check.due("the depot", x.look(1, 3), 7);
        Check.due("the others stay", x.look(0, 3) + x.look(3, 3), 18);
        Check.due("all of them", x.count(13), 25);
        Check.due("one", x.trade(1), 1);
    }

    private static void tradedWhereItIs() {
        UphillCarts y = Check.of("bend a 0;bend b 0;bend c 0;bend d 0;depot a 9;depot b 9;depot d 9;stone 1;");
        y.stones(9);
        y.go(1);
        Check.refused(y, "above 9", () -> y.trade(1), -1);
        Check.due("all nine", y.trade(-9), 0);
        Check.due("the depot", y.look(1, 3), 18);
        Check.due("nine", y.trade(9), 9);
        Check.due("nine are left", y.look(1, 3), 9);
        Check.due("one", y.trade(-1), 8);
        Check.refused(y, "above 9", () -> y.trade(2), -1);
        y.go(1);
        Check.due("where no depot is told", y.look(2, 3), 0);
        Check.refused(y, "one of none", () -> y.trade(1), -1);
        Check.due("it has them then", y.trade(-8), 0);
        Check.due("eight", y.look(2, 3), 8);
        y.go(1);
        Check.refused(y, "up", () -> y.trade(1), -1);
        Check.refused(y, "up", () -> y.trade(-1), -1);
        UphillCarts z = Check.of("bend a 0;bend b 80;bend c 0;bag s 9 1;depot b 9;");
        z.tie(0, 1);
        z.stones(2);
        z.go(1);
        Check.refused(z, "lost at b", () -> z.trade(9 - 2), -1);
        Check.refused(z, "lost at b", () -> z.trade(-1), -1);
        Check.due("of a new object", new UphillCarts().trade(1), -1);
    }

    private static void undoing() {
        Check.says("the latest first (20 at most)");
        UphillCarts x = Check.of(ROAD);
        for (int hour = 1; hour <= 19; hour++) {
            x.at(hour);
        }
        Check.due("19", x.count(9), 19);
        x.at(20);
        Check.due("20", x.count(9), 20);
        x.at(21);
        Check.due("20 still", x.count(9), 20);
        x.at(22);
        Check.due("20 still", x.count(9), 20);
        for (int left = 19; left >= 0; left--) {
            Check.due("undo", x.undo(), left);
            Check.due("hour", x.count(4), left + 2);
            Check.due("left", x.count(9), left);
        }
        Check.says("The latest is undone: how many are left; NONE: none.");
        Check.refused(x, "none left", () -> x.undo(), -1);
        Check.due("the two first ones stay", x.count(4), 2);
        Check.due("one more", x.at(9), true);
        Check.due("undo", x.undo(), 0);
        Check.due("hour", x.count(4), 2);
        Check.due("of a new object", new UphillCarts().undo(), -1);
        // Filled, half undone, and filled again.
        UphillCarts y = Check.of(ROAD);
        for (int i = 1; i <= 25; i++) {
            y.stones(i % 2 == 0 ? 8 : 7);
            y.undo();
            y.at(i % 24);
        }
        Check.due("at(24 % 24) and at(1) come, too", y.count(9), 20);
        for (int i = 0; i < 10; i++) {
            y.undo();
        }
        Check.due("ten left", y.count(9), 10);
        Check.due("hour", y.count(4), 15);
        y.load(0, true);
        Check.due("eleven", y.count(9), 11);
        Check.due("undo", y.undo(), 10);
        Check.due("goods", y.count(11), 0);
        Check.due("hour", y.count(4), 15);
    }

    private static void undoingTheLatestFirst() {
        Check.says("LOADING, tying, stones, the HOUR (at the lowest BEND), stones traded on the WAY by call can be undone");
        UphillCarts x = Check.of(ROAD);
        String[] states = new String[5];
        for (int i = 0; i < 5; i++) {
            states[i] = Check.state(x);
            switch (i) {
                case 0: x.load(1, true); break;
                case 1: x.tie(0, 2); break;
                case 2: x.stones(9); break;
                case 3: x.at(23); break;
                default: x.load(1, false); break;
            }
        }
        for (int i = 4; i >= 0; i--) {
            Check.due("undo", x.undo(), i);
            Check.due("as it was ahead of " + i, Check.state(x).equals(states[i]), true);
        }
        x.stones(3);
        x.go(1);
        String first = Check.state(x);
        x.trade(4);
        String second = Check.state(x);
        x.trade(-6);
        Check.due("two", x.count(9), 2);
        Check.due("undo", x.undo(), 1);
        Check.due("as it was", Check.state(x).equals(second), true);
        Check.due("undo", x.undo(), 0);
        Check.due("as it was", Check.state(x).equals(first), true);
        Check.due("the depot", x.look(1, 3), 4);
        Check.due("no more: the hour that went by stays", x.undo(), -1);
        // Refused calls can't be undone.
        UphillCarts y = Check.of(ROAD);
        y.load(2, true);
        y.load(0, false);
        y.tie(0, 3);
        y.stones(10);
        y.at(0);
        y.trade(1);
        Check.due("nothing", y.undo(), -1);
    }

    private static void undoneByGoing() {
        Check.says("if there was no go() of 1 HOUR or more since");
        UphillCarts x = Check.of(ROAD);
        x.stones(9);
        x.load(1, true);
        x.go(0);
        Check.due("go(0)", x.count(9), 2);
        x.go(51);
        Check.due("go(51)", x.count(9), 2);
        x.go(-1);
        Check.due("go(-1)", x.count(9), 2);
        Check.due("stuck", x.go(1), 0);
        Check.due("go(1), though it is where it was", x.count(9), 0);
        Check.due("undo", x.undo(), -1);
        x.load(1, false);
        x.stones(1);
        Check.due("since then", x.count(9), 2);
        x.go(1);
        x.trade(1);
        Check.due("since then", x.count(9), 1);
        x.go(0);
        Check.due("go(0)", x.count(9), 1);
        x.go(1);
        Check.due("go(1)", x.undo(), -1);
        UphillCarts y = Check.of("bend a 90;bend b 90;bag s 9 1;");
        y.tie(0, 1);
        Check.due("lost where it is", y.go(1), -2);
        Check.due("no hour went by, but go(1) was", y.undo(), -1);
        UphillCarts z = Check.of("bend a 0;");
        z.stones(1);
        z.go(1);
        Check.due("with one bend there is no go", z.undo(), 0);
    }

    private static void imageKeeps() {
        Check.says("An IMAGE keeps all but what was SEEN.");
        UphillCarts x = robbed("depot b 5;thief b 50;thief c 50;thief d 50;", 3, 3, 3, 3);
        x.at(22);
        x.stones(4);
        x.go(1);
        x.trade(2);
        x.see(0, 0, 0, 9);
        x.known(1);
        x.keep();
        String kept = Check.state(x);
        x.undo();
        x.trade(-3);
        x.go(2);
        String up = Check.state(x);
        x.see(1, 0, 0, 9);
        x.strike(0);
        x.known(3);
        Check.says("All (but what was SEEN) is as in the IMAGE (nothing to undo then): which HOUR it is");
        Check.due("back", x.back(), 23);
        Check.due("seen", x.count(7), 3);
        Check.due("known by", x.count(8), 1);
        Check.due("nothing to undo", x.count(9), 0);
        Check.due("undo", x.undo(), -1);
        for (int what : new int[] {4, 5, 6, 10, 11, 12, 13}) {
            Check.due("count(" + what + ")", x.count(what), Long.parseLong(kept.split(" ")[what]));
        }
        Check.due("the depot", x.look(1, 3), 3);
        // The same numbers come again, so that the same BAGS are cut.
        x.trade(-2);
        x.trade(-3);
        x.trade(3);
        x.trade(-3);
        x.go(2);
        Check.due("as many bags", x.count(12), Long.parseLong(up.split(" ")[12]));
        Check.due("back again", x.back(), 23);
        // LOST it was not then.
        UphillCarts y = Check.of("bend a 0;bend b 80;bag s 9 1;goods g 1 0 0;");
        y.tie(0, 1);
        y.at(5);
        Check.due("keep", y.keep(), 5);
        Check.due("keep leaves what can be undone", y.count(9), 2);
        y.go(1);
        Check.due("lost", y.count(6), 3);
        Check.due("back", y.back(), 5);
        Check.due("not lost", y.count(6), 0);
        Check.due("it can be loaded", y.load(0, true), true);
        Check.due("and that be undone", y.undo(), 0);
        y.go(1);
        Check.due("keep it lost", y.keep(), 6);
        Check.due("back", y.back(), 6);
        Check.due("lost", y.count(6), 3);
        Check.due("lost", y.load(0, true), false);
        UphillCarts z = Check.of(ROAD);
        z.see(0, 0, 0, 0);
        z.see(0, 0, 0, 0);
        z.stones(1);
        z.keep();
        z.known(1);
        z.stones(2);
        z.load(0, true);
        Check.due("three", z.count(9), 3);
        z.back();
        Check.due("nothing to undo", z.undo(), -1);
        Check.due("stones", z.count(10), 1);
        Check.due("goods", z.count(11), 0);
        Check.due("all known", z.count(8), 2);
        z.see(0, 0, 0, 0);
        Check.due("those to come, too", z.count(8), 3);
    }

    private static void imagesInPlace() {
        Check.says("An IMAGE is kept (in place of one ahead): which HOUR it is.");
        UphillCarts x = Check.of(ROAD);
        Check.due("keep", x.keep(), 0);
        x.at(23);
        Check.due("keep", x.keep(), 23);
        x.at(4);
        Check.due("the later one", x.back(), 23);
        Check.due("and again", x.back(), 23);
        x.load(0, true);
        x.keep();
        x.load(1, true);
        x.back();
        Check.due("goods of the later one", x.count(11), 1);
        Check.says("NONE: there is none.");
        UphillCarts y = Check.of(ROAD);
        y.stones(2);
        Check.refused(y, "back", () -> y.back(), -1);
        Check.due("undo still", y.undo(), 0);
        Check.due("of a new object", new UphillCarts().back(), -1);
        // A text takes it away; one with a fault, or of no such length, does not.
        Check.due("keep", y.keep(), 0);
        Check.tell(y, "#");
        y.text(1);
        Check.due("back", y.back(), 0);
        Check.tell(y, "");
        Check.due("none", y.back(), -1);
    }

    private static void counts() {
        Check.says("6 its state (0 on its way, 1 UP, 3 LOST)");
        Check.due("at the lowest", Check.of(ROAD).count(6), 0);
        Check.due("on its way", onItsWay().count(6), 0);
        Check.due("lost", lost().count(6), 3);
        Check.says("8 by how many it is KNOWN");
        UphillCarts x = Check.of(ROAD);
        Check.due("all of none", x.count(8), 0);
        x.see(0, 0, 0, 0);
        Check.due("all of one", x.count(8), 1);
        x.known(0);
        Check.due("none", x.count(8), 0);
        x.see(0, 0, 0, 0);
        Check.due("none", x.count(8), 0);
        x.known(2);
        x.strike(0);
        Check.due("two", x.count(8), 2);
        x.known(-1);
        Check.due("all three", x.count(8), 3);
        Check.says("13 all stones at depots");
        Check.due("81", Check.of("bend a 1;bend b 1;bend c 1;bend d 1;bend e 1;bend f 1;bend g 1;bend h 1;bend i 1;depot a 9;depot b 9;"
            + "depot c 9;depot d 9;depot e 9;depot f 9;depot g 9;depot h 9;depot i 9;").count(13), 81);
        Check.says("NONE for another what.");
        for (int what : beyond(0, 13)) {
            Check.due("count(" + what + ")", x.count(what), -1);
        }
    }

    private static void manyCalls() {
        Check.says("An object is used for at most 512 calls after it has been made");
        UphillCarts x = new UphillCarts();
        for (int call = 1; call <= 511; call++) {
            Check.due("at, call " + call, x.at(call % 2), true);
        }
        Check.due("the 512th", x.count(9), 20);
        UphillCarts y = new UphillCarts();
        for (int call = 1; call <= 512; call += 2) {
            Check.due("feed, call " + call, y.feed(0x20202020, 0x20202020, 0x20202020, 0x20202020, 0x20202020), 20);
            Check.due("text, call " + (call + 1), y.text(20), 0);
        }
        UphillCarts z = new UphillCarts();
        for (int call = 1; call <= 512; call++) {
            Check.due("fits, call " + call, z.fits(), 10);
        }
    }
}
