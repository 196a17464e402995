import static java.lang.Integer.MIN_VALUE;

/** Promises 1 and 5 to 42, each by answers worked out by hand. */
public final class PromisesTest {
    private static final String ROAD = "bend foot 0;bend mid 20 wide wind -3;bend top 40 wind 2;goods hay 20 5 15;"
        + "goods iron 50 10 40;bag big 5 2;depot mid 3;horse 30 5;";

    public static void main(String[] args) {
        newObject();
        namesAndTables();
        lifts();
        pulls();
        laws();
        nets();
        loading();
        going();
        thieves();
        trading();
        ways();
        hours();
        mostAndToll();
        ballast();
        ropes();
        meeting();
        worth();
        landing();
        seeing();
        striking();
        chances();
        trials();
        undoing();
        images();
        counts();
        Check.end("PromisesTest");
    }

    private static void newObject() {
        UphillCarts x = new UphillCarts();
        for (int what = 0; what <= 13; what++) {
            Check.due("new count(" + what + ")", x.count(what), 0);
        }
        Check.due("new count(14)", x.count(14), -1);
        Check.due("new count(-1)", x.count(-1), -1);
        Check.due("new named", x.named(0, 0), -1);
        Check.due("new look", Check.thrownByLook(x, 0, 0), 1);
        Check.due("new when", x.when(), 0);
        Check.due("new go", x.go(0), -1);
        Check.due("new chance", x.chance(0), -1);
        Check.due("new most", x.most(0, 0), -1);
        Check.due("new toll", x.toll(0), -1);
        Check.due("new ballast", x.ballast(0), -1);
        Check.due("new behind", x.behind(0, 0), -1);
        Check.due("new ropes", x.ropes(0), -1);
        Check.due("new waits", x.waits(0, 0), -1);
        Check.due("new lands", x.lands(0), MIN_VALUE);
        Check.due("new tried", x.tried(0, 0, 0), -1);
        Check.due("new fits", x.fits(), 10);
        Check.due("new fit", x.fit(9, 2), 9);
        Check.due("new stones", x.stones(3), true);
        Check.due("new at", x.at(3), true);
        Check.due("new undo", x.undo(), 1);
        Check.due("NONE", UphillCarts.NONE, -1);
    }

    private static void namesAndTables() {
        UphillCarts x = Check.of("bend foot 7;bend abcdef 3 wide wind 9;bend z 99 wind -9;goods foot 60 99 0;bag z 9 3;bag foot 1 0;"
            + "depot foot 9;thief z 99;");
        Check.due("lines", x.count(0) + x.count(1) + x.count(2), 6);
        Check.due("named bend", x.named(0, Check.letters("abcdef")), 1);
        Check.due("named bend", x.named(0, Check.letters("z")), 2);
        Check.due("z is the highest of six", x.named(0, 26 << 25), 2);
        Check.due("and not the lowest", x.named(0, 26), -1);
        Check.due("named goods", x.named(1, Check.letters("foot")), 0);
        Check.due("named goods", x.named(1, Check.letters("z")), -1);
        Check.due("named bag", x.named(2, Check.letters("foot")), 1);
        Check.due("part of a name", x.named(0, Check.letters("foo")), -1);
        Check.due("no letters", x.named(0, 0), -1);
        Check.due("more bits", x.named(0, Check.letters("z") | 1 << 30), -1);
        Check.due("named of another", x.named(3, Check.letters("foot")), -1);
        Check.due("named of another", x.named(-1, Check.letters("foot")), -1);
        int[][] bends = {{7, 0, 0, 9, 0, 0}, {3, 1, 9, 0, 0, 0}, {99, 0, -9, 0, 99, 96}};
        for (int bend = 0; bend < 3; bend++) {
            for (int what = 0; what < 6; what++) {
                Check.due("look(" + bend + ", " + what + ")", x.look(bend, what), bends[bend][what]);
            }
        }
        Check.due("look(3, 0)", Check.thrownByLook(x, 3, 0), 1);
        Check.due("look(-1, 0)", Check.thrownByLook(x, -1, 0), 1);
        Check.due("look(3, 6)", Check.thrownByLook(x, 3, 6), 1);
        Check.due("look(2, 6)", Check.thrownByLook(x, 2, 6), 2);
        Check.due("look(0, -1)", Check.thrownByLook(x, 0, -1), 2);
        int[] goods = {60, 99, 0, 0};
        for (int what = 0; what < 4; what++) {
            Check.due("goods(0, " + what + ")", x.goods(0, what), goods[what]);
        }
        x.load(0, true);
        Check.due("goods(0, 3)", x.goods(0, 3), 1);
        Check.due("goods(0, 4)", x.goods(0, 4), -1);
        Check.due("goods(0, -1)", x.goods(0, -1), -1);
        Check.due("goods(1, 0)", x.goods(1, 0), -1);
        Check.due("goods(-1, 0)", x.goods(-1, 0), -1);
        Check.due("bag(0, 0)", x.bag(0, 0), 9);
        Check.due("bag(0, 1)", x.bag(0, 1), 3);
        Check.due("bag(0, 2)", x.bag(0, 2), 0);
        x.tie(0, 3);
        Check.due("bag(0, 2)", x.bag(0, 2), 3);
        Check.due("bag(1, 0)", x.bag(1, 0), 1);
        Check.due("bag(1, 1)", x.bag(1, 1), 0);
        Check.due("bag(0, 3)", x.bag(0, 3), -1);
        Check.due("bag(2, 0)", x.bag(2, 0), -1);
        Check.due("bag(-1, 0)", x.bag(-1, 0), -1);
    }

    private static void lifts() {
        UphillCarts x = Check.of("bend a 19;bend b 99;bag s 1 1;bag t 9 1;");
        Check.due("1 * 19 / 10", x.lift(0, 0, 0), 1);
        Check.due("9 * 99 / 10", x.lift(1, 1, 23), 89);
        Check.due("lift(2, 0, 0)", x.lift(2, 0, 0), -1);
        Check.due("lift(-1, 0, 0)", x.lift(-1, 0, 0), -1);
        Check.due("lift(0, 2, 0)", x.lift(0, 2, 0), -1);
        Check.due("lift(0, -1, 0)", x.lift(0, -1, 0), -1);
        Check.due("lift(0, 0, 24)", x.lift(0, 0, 24), -1);
        Check.due("lift(0, 0, -1)", x.lift(0, 0, -1), -1);
        x = Check.of("bend a 50;bag s 2 1;law lift (hour-1)*100;");
        Check.due("below 0", x.lift(0, 0, 0), 0);
        Check.due("0", x.lift(0, 0, 1), 0);
        Check.due("above 99", x.lift(0, 0, 2), 99);
        x = Check.of("bend a 50;bag s 2 1;law lift 7/(hour-3)+20;");
        Check.due("an error", x.lift(0, 0, 3), 10);
        Check.due("no error", x.lift(0, 0, 4), 27);
    }

    private static void pulls() {
        UphillCarts x = Check.of("bend a 0;bend b 15;bend c 5;bend d 99;horse 41 9;");
        Check.due("41 - 15 / 2", x.pull(1, 0), 34);
        Check.due("down", x.pull(2, 0), 41);
        Check.due("0 at least", x.pull(3, 0), 0);
        Check.due("the lowest", x.pull(0, 0), -1);
        Check.due("pull(4, 0)", x.pull(4, 0), -1);
        Check.due("pull(-1, 0)", x.pull(-1, 0), -1);
        Check.due("pull(1, 24)", x.pull(1, 24), -1);
        Check.due("pull(1, -1)", x.pull(1, -1), -1);
        Check.due("40 without a horse", Check.of("bend a 0;bend b 0;").pull(1, 0), 40);
        x = Check.of("bend a 0;bend b 10;horse 100 0;law pull size*10*(hour=1)-(hour=2)+5/(hour-3);");
        Check.due("above 999", x.pull(1, 1), 998);
        x = Check.of("bend a 0;bend b 10;horse 101 0;law pull size*10*(hour=1)-9*(hour=2)+0/(hour-3);");
        Check.due("above 999", x.pull(1, 1), 999);
        Check.due("below 0", x.pull(1, 2), 0);
        Check.due("an error", x.pull(1, 3), 96);
        Check.due("0", x.pull(1, 4), 0);
    }

    private static long worked(String e) {
        return Check.of("bend a 3;bend b 20 wind -7;bag s 4 1;warm 1 2 3;law lift " + e + ";").law(0, 0, 1, 2);
    }

    private static void laws() {
        Check.due("size", worked("size"), 4);
        Check.due("height", worked("height"), 20);
        Check.due("air", worked("air"), 3);
        Check.due("hour", worked("hour"), 2);
        Check.due("gust", worked("gust"), 7);
        Check.due("slope", worked("slope"), 17);
        Check.due("left to right", worked("10-4-3"), 3);
        Check.due("left to right", worked("100/7/2"), 7);
        Check.due("cut towards 0", worked("(0-7)/2"), -3);
        Check.due("cut towards 0", worked("7/(0-2)"), -3);
        Check.due("* ahead of +", worked("1+2*3"), 7);
        Check.due("( )", worked("(1+2)*3"), 9);
        Check.due("+ ahead of <", worked("1+1<3"), 1);
        Check.due("<", worked("3<3"), 0);
        Check.due("<=", worked("3<=3"), 1);
        Check.due("=", worked("3=3"), 1);
        Check.due("<>", worked("3<>3"), 0);
        Check.due(">=", worked("2>=3"), 0);
        Check.due(">", worked("4>3"), 1);
        Check.due("not of a comparison", worked("not 4>3"), 0);
        Check.due("not not", worked("not not 5"), 1);
        Check.due("not + ", worked("not 0+0"), 1);
        Check.due("and", worked("5 and 7"), 1);
        Check.due("and", worked("5 and 0"), 0);
        Check.due("or", worked("0 or 7"), 1);
        Check.due("or", worked("0 or 0"), 0);
        Check.due("and ahead of or", worked("1 or 0 and 0"), 1);
        Check.due("not ahead of and", worked("not 1 and 0"), 0);
        Check.due("not ahead of or", worked("not 0 or 1"), 1);
        Check.due("1 or 0 in a sum", worked("(3>2)+(2>1)"), 2);
        Check.due("both sides are worked out", worked("1 or 1/0"), Long.MIN_VALUE);
        Check.due("both sides are worked out", worked("0 and 1/0"), Long.MIN_VALUE);
        Check.due("/ by 0", worked("1/(hour-2)"), Long.MIN_VALUE);
        Check.due("10 to the 12", worked("1000*1000*1000*1000"), 1000000000000L);
        Check.due("more", worked("1000*1000*1000*1000+1"), Long.MIN_VALUE);
        Check.due("below 0", worked("0-1000*1000*1000*1000"), -1000000000000L);
        Check.due("more below 0", worked("0-1000*1000*1000*1000-1"), Long.MIN_VALUE);
        Check.due("far more than a long", worked("(1000*1000*1000*1000)*(1000*1000*1000*1000)"), Long.MIN_VALUE);
        Check.due("an error though less comes out", worked("1000*1000*1000*1001-9999"), Long.MIN_VALUE);
        Check.due("0 times", worked("0*(1000*1000*1000*1000)"), 0);
        Check.due("times 0", worked("(1000*1000*1000*1000)*0"), 0);
        Check.due("63 nots", worked("not ".repeat(63) + "1"), 0);
        Check.due("62 nots", worked("not ".repeat(62) + "1"), 1);
        Check.due("all that can wait", worked("0 or 1 and not(".repeat(7) + "1<2*3" + ")".repeat(7)), 0);
        Check.due("from the right", worked("1-(2-(3-(4-(5-(6-(7-(8-9)))))))"), 5);
        UphillCarts x = Check.of("bend a 3;bend b 20;horse 77 1;bag s 4 1;law pull size+slope*100;");
        Check.due("size of pull is STRONG", x.law(1, 0, 1, 0), 1777);
        Check.due("sort isn't looked at", x.law(1, -5, 1, 0), 1777);
        Check.due("the lowest", x.law(1, 0, 0, 0), Long.MIN_VALUE);
        Check.due("no such law", x.law(0, 0, 1, 0), Long.MIN_VALUE);
        Check.due("no such what", x.law(2, 0, 1, 0), Long.MIN_VALUE);
        Check.due("no such bend", x.law(1, 0, 2, 0), Long.MIN_VALUE);
        Check.due("no such hour", x.law(1, 0, 1, 24), Long.MIN_VALUE);
        x = Check.of("bend a 3;bend b 20;bag s 4 1;law lift not size;law pull 5;");
        Check.due("each law is its own", x.law(0, 0, 1, 0), 0);
        Check.due("each law is its own", x.law(1, 0, 1, 0), 5);
        x = Check.of("bend a 3 wind 2;bag s 4 1;law lift 1-slope*9-gust*100;");
        Check.due("slope of the lowest is 0", x.law(0, 0, 0, 0), -199);
        Check.due("no such bag", x.law(0, 1, 0, 0), Long.MIN_VALUE);
        Check.due("air of those not told", Check.of("bend a 0;bag s 1 1;warm 1;law lift air;").law(0, 0, 0, 1), 5);
        Check.due("air of the last", Check.of("bend a 0;bag s 1 1;warm 0 0 0 0 0 0 0 0 0 0 0 0 0 0 0 0 0 0 0 0 0 0 0 8;law lift air;")
            .law(0, 0, 0, 23), 8);
    }

    private static void nets() {
        UphillCarts x = Check.of("bend a 0;bend b 50;goods g 30 0 0;goods h 7 0 0;bag s 2 2;bag t 3 1;stone 4;");
        Check.due("empty", x.net(1, 0), 0);
        x.load(0, true);
        x.load(1, true);
        x.stones(9);
        Check.due("30 + 7 + 36", x.net(1, 0), 73);
        x.tie(0, 2);
        x.tie(1, 1);
        Check.due("less 2 * 10 and 15", x.net(1, 0), 38);
        Check.due("at 0 nothing lifts", x.net(0, 0), 73);
        Check.due("net(2, 0)", x.net(2, 0), MIN_VALUE);
        Check.due("net(-1, 0)", x.net(-1, 0), MIN_VALUE);
        Check.due("net(0, 24)", x.net(0, 24), MIN_VALUE);
        Check.due("net(0, -1)", x.net(0, -1), MIN_VALUE);
        x = Check.of("bend a 0;");
        x.stones(1);
        Check.due("a stone weighs 5", x.net(0, 0), 5);
    }

    private static void loading() {
        UphillCarts x = Check.of(ROAD);
        Check.due("load", x.load(0, true), true);
        Check.due("load again", x.load(0, true), false);
        Check.due("unload", x.load(0, false), true);
        Check.due("unload again", x.load(0, false), false);
        Check.due("no such goods", x.load(2, true), false);
        Check.due("no such goods", x.load(-1, true), false);
        Check.due("tie", x.tie(0, 2), true);
        Check.due("tie again", x.tie(0, 2), false);
        Check.due("not so many", x.tie(0, 3), false);
        Check.due("not so few", x.tie(0, -1), false);
        Check.due("no such sort", x.tie(1, 0), false);
        Check.due("no such sort", x.tie(-1, 1), false);
        Check.due("untie", x.tie(0, 0), true);
        Check.due("stones", x.stones(9), true);
        Check.due("stones again", x.stones(9), false);
        Check.due("too many", x.stones(10), false);
        Check.due("too few", x.stones(-1), false);
        Check.due("no stones", x.stones(0), true);
        Check.due("hour", x.at(23), true);
        Check.due("hour again", x.at(23), false);
        Check.due("no such hour", x.at(24), false);
        Check.due("no such hour", x.at(-1), false);
        Check.due("go", x.go(1), 1);
        Check.due("not at the lowest", x.load(0, true), false);
        Check.due("not at the lowest", x.tie(0, 1), false);
        Check.due("not at the lowest", x.stones(1), false);
        Check.due("not at the lowest", x.at(5), false);
        x = Check.of("bend a 90;bend b 90;bag s 9 1;goods g 1 1 1;horse 9 0;");
        x.tie(0, 1);
        Check.due("lost at the lowest", x.go(1), -2);
        Check.due("lost", x.load(0, true), false);
        Check.due("lost", x.tie(0, 0), false);
        Check.due("lost", x.stones(1), false);
        Check.due("lost", x.at(5), false);
        Check.due("nothing to undo", x.undo(), -1);
    }

    private static void going() {
        UphillCarts x = Check.of(ROAD);
        Check.due("go(-1)", x.go(-1), -1);
        Check.due("go(51)", x.go(51), -1);
        Check.due("go(0)", x.go(0), 0);
        x.load(1, true);
        x.at(22);
        Check.due("stuck, the hours go by", x.go(5), 0);
        Check.due("hour", x.count(4), 3);
        Check.due("state", x.count(6), 0);
        x.load(1, false);
        Check.due("go(50)", x.go(50), 2);
        Check.due("hour", x.count(4), 5);
        Check.due("up", x.count(6), 1);
        Check.due("go on", x.go(1), 2);
        Check.due("no hour goes by", x.count(4), 5);
        // Lost at the next one: there it is, and the hour has gone by.
        x = Check.of("bend a 0;bend b 60;bend c 60;bag s 1 2;horse 9 5;");
        x.tie(0, 1);
        Check.due("6 is more than it holds", x.go(1), -2);
        Check.due("bend", x.count(5), 1);
        Check.due("hour", x.count(4), 1);
        Check.due("state", x.count(6), 3);
        Check.due("go on", x.go(1), -2);
        Check.due("no hour goes by", x.count(4), 1);
        x = Check.of("bend a 0;bend b 50;bend c 50;bag s 1 2;horse 9 5;");
        x.tie(0, 1);
        Check.due("5 is what it holds", x.go(2), 2);
        // Lost where it is: the hour doesn't go by.
        x = Check.of("bend a 0;bend b 0;bag s 1 1;horse 9 5;warm 5 5 6;law lift air;");
        x.tie(0, 1);
        x.at(2);
        Check.due("6 at hour 2", x.go(3), -2);
        Check.due("bend", x.count(5), 0);
        Check.due("hour", x.count(4), 2);
        Check.due("state", x.count(6), 3);
        // Pulled as much as can be, and a pound more.
        x = Check.of("bend a 0;bend b 10;goods g 35 0 0;goods h 1 0 0;");
        x.load(0, true);
        x.load(1, true);
        Check.due("36", x.go(1), 0);
        x.load(1, false);
        Check.due("35", x.go(1), 1);
        Check.due("one bend", Check.of("bend a 0;").go(1), -1);
    }

    private static void thieves() {
        for (int seed = 0; seed < 50; seed++) {
            int[] drawn = Check.numbers(seed, 3);
            UphillCarts x = Check.of("bend a 0;bend b 0;bend c 0;bend d 0;bag s 1 1;bag t 1 2;thief a 99;thief b 50;thief c 0;"
                + "thief d 50;seed " + seed + ";");
            x.tie(0, 1);
            x.tie(1, 2);
            int cut = 0;
            Check.due("go", x.go(1), 1);
            cut += drawn[0] % 100 < 50 ? 1 : 0;
            Check.due("cut at b, seed " + seed, x.count(12), 9 - cut);
            Check.due("go", x.go(1), 2);
            Check.due("none at c", x.count(12), 9 - cut);
            Check.due("go", x.go(1), 3);
            cut += drawn[1] % 100 < 50 ? 1 : 0;
            Check.due("cut at d, seed " + seed, x.count(12), cut == 0 ? 9 : cut == 1 ? 8 : 4);
        }
        // A number is drawn though there is no bag.
        int[] drawn = Check.numbers(3, 2);
        UphillCarts x = Check.of("bend a 0;bend b 0;bend c 0;bag s 1 1;thief b 99;thief c 99;seed 3;");
        x.keep();
        x.go(2);
        x.back();
        x.tie(0, 1);
        x.go(1);
        Check.due("numbers as in the image", x.count(12), drawn[0] % 100 < 99 ? 0 : 1);
    }

    private static void trading() {
        UphillCarts x = Check.of(ROAD);
        x.stones(2);
        Check.due("at the lowest", x.trade(1), -1);
        x.go(1);
        Check.due("trade(0)", x.trade(0), -1);
        Check.due("trade(10)", x.trade(10), -1);
        Check.due("trade(-10)", x.trade(-10), -1);
        Check.due("trade(4)", x.trade(4), -1);
        Check.due("trade(3)", x.trade(3), 5);
        Check.due("depot", x.look(1, 3), 0);
        Check.due("trade(1)", x.trade(1), -1);
        Check.due("trade(-6)", x.trade(-6), -1);
        Check.due("trade(-5)", x.trade(-5), 0);
        Check.due("depot", x.look(1, 3), 5);
        Check.due("all depots", x.count(13), 5);
        x.go(1);
        Check.due("up", x.trade(-1), -1);
        x = Check.of("bend a 0;bend b 0;bend c 0;depot b 9;stone 1;");
        x.stones(5);
        x.go(1);
        Check.due("above 9", x.trade(5), -1);
        Check.due("9", x.trade(4), 9);
        Check.due("less", x.trade(-9), 0);
        Check.due("depot", x.look(1, 3), 14);
        x = Check.of("bend a 0;bend b 0;bend c 0;");
        x.stones(5);
        x.go(1);
        Check.due("where no depot is told", x.trade(-2), 3);
        Check.due("depot", x.look(1, 3), 2);
        x = Check.of("bend a 0;bend b 80;bend c 0;bag s 3 1;depot b 9;horse 40 9;");
        x.tie(0, 1);
        Check.due("lost", x.go(1), -2);
        Check.due("lost", x.trade(1), -1);
    }

    private static void ways() {
        UphillCarts x = Check.of(ROAD);
        Check.due("led(24, 0)", x.led(24, 0), -1);
        Check.due("led(-1, 0)", x.led(-1, 0), -1);
        Check.due("led(0, 2)", x.led(0, 2), -1);
        Check.due("led(0, -1)", x.led(0, -1), -1);
        Check.due("one bend", Check.of("bend a 0;").led(0, 0), -1);
        x = Check.of("bend a 0;bend b 0;bend c 0;goods g 8 0 0;bag s 1 3;horse 9 2;"
            + "warm 3 4 2 9 9 9 9 9 9 9 9 9 9 9 9 9 9 9 9 9 9 9 9 1;law lift air*(size=1)*(hour<9 or hour=23);law pull 9-air*2;");
        Check.due("stuck at the lowest: pull 0 at hour 6", x.led(5, 0), 2);
        x.load(0, true);
        Check.due("from 23: at 0 pull is 3", x.led(23, 0), 0);
        Check.due("stuck", x.led(23, 1), 2);
        x.tie(0, 2);
        Check.due("from 23: 6, 2 and 0 below: 8-6=2, pull 3; 8-8=0, pull 1: up", x.led(23, 1), 1);
        Check.due("at the last", x.led(23, 0), 2);
        Check.due("from 0: 8-8=0, pull 1; at 2: 8-4=4, pull 5: up", x.led(0, 1), 1);
        Check.due("from 1: at 2 4 of 5, at 3 8-18=-10: lost", x.led(1, 1), 3);
        Check.due("where it is lost", x.led(1, 0), 2);
        Check.due("from 3: lost at the lowest", x.led(3, 1), 3);
        Check.due("there", x.led(3, 0), 0);
        Check.due("the cart is where it was", x.count(5), 0);
    }

    private static void hours() {
        String all = "bend a 0;bend b 0;goods g 5 0 0;law pull ";
        UphillCarts x = Check.of(all + "9*(hour>=4 and hour<=6 or hour=9 or hour>=12 and hour<=14);");
        Check.due("when, empty", x.when(), 0xffffff);
        Check.due("span, all", x.span(0), 0);
        Check.due("span, all", x.span(1), 24);
        x.load(0, true);
        Check.due("when", x.when(), 7 << 3 | 1 << 8 | 7 << 11);
        Check.due("the first of two", x.span(0), 3);
        Check.due("three", x.span(1), 3);
        Check.due("span(2)", x.span(2), -1);
        Check.due("span(-1)", x.span(-1), -1);
        x = Check.of(all + "9*(hour<3 or hour=23 or hour>4 and hour<8);");
        x.load(0, true);
        Check.due("when", x.when(), 1 << 23 | 1 << 22 | 3 | 7 << 4);
        Check.due("0 behind 23", x.span(0), 22);
        Check.due("four", x.span(1), 4);
        x = Check.of(all + "0;");
        x.load(0, true);
        Check.due("when never", x.when(), 0);
        Check.due("no span", x.span(0), -1);
        Check.due("no span", x.span(1), 0);
        x = Check.of(all + "9*(hour<>7);");
        x.load(0, true);
        Check.due("all but one", x.span(0), 7);
        Check.due("23", x.span(1), 23);
        x = Check.of("bend a 0;");
        Check.due("one bend", x.when(), 0);
        Check.due("one bend", x.span(0), -1);
        Check.due("one bend", x.span(1), 0);
        Check.due("one bend", x.span(2), -1);
    }

    private static void mostAndToll() {
        UphillCarts x = Check.of(ROAD);
        // Pull is 20 to both; a bag lifts 10 and 20 pounds there: iron, 50, needs more than two of them at mid.
        Check.due("sum", x.most(0, 0), 10);
        Check.due("goods", x.most(0, 1), 1);
        Check.due("bags", x.most(0, 2), 0);
        Check.due("stones", x.most(0, 3), 0);
        Check.due("toll: 10 for 20 pounds", x.toll(0), 1);
        Check.due("most(24, 0)", x.most(24, 0), -1);
        Check.due("most(-1, 0)", x.most(-1, 0), -1);
        Check.due("most(0, 4)", x.most(0, 4), -1);
        Check.due("most(0, -1)", x.most(0, -1), -1);
        Check.due("toll(24)", x.toll(24), -1);
        Check.due("toll(-1)", x.toll(-1), -1);
        // 60 pounds by two bags of 20 and 20 of pull at b; above they lift 80, 10 are held: two stones of 5 more.
        x = Check.of("bend a 0;bend b 20;bend c 40;goods g 60 1 90;goods h 60 1 90;goods i 9 9 0;bag s 9 2;bag t 1 1;horse 40 10;"
            + "law lift size*height*10/90;");
        Check.due("sum", x.most(0, 0), 89);
        Check.due("the least goods", x.most(0, 1), 1);
        Check.due("the least bags", x.most(0, 2), 2);
        Check.due("stones", x.most(0, 3), 2);
        Check.due("toll: 89 for 60", x.toll(0), 2);
        x = Check.of("bend a 0;bend b 0;goods g 1 0 99;goods h 2 50 0;");
        Check.due("99 for 1", x.toll(0), 99);
        Check.due("g alone", x.most(0, 1), 1);
        x = Check.of("bend a 0;bend b 0;goods g 1 9 9;");
        Check.due("nothing pays", x.toll(0), 0);
        Check.due("then nothing", x.most(0, 1), 0);
    }

    private static void ballast() {
        UphillCarts x = Check.of(ROAD);
        x.load(0, true);
        x.tie(0, 2);
        // Net above is 20 - 40: 15 more are needed, three stones; at mid 0 and 20 of pull.
        Check.due("one change", x.ballast(0), 1);
        Check.due("none at the lowest", x.behind(0, 0), 0);
        Check.due("all of the depot's", x.behind(0, 1), 3);
        Check.due("as it comes", x.behind(0, 2), 3);
        x.stones(3);
        Check.due("no change", x.ballast(0), 0);
        Check.due("behind", x.behind(0, 0), 3);
        x.stones(9);
        Check.due("45 are too much at mid", x.ballast(0), 1);
        Check.due("the fewest behind", x.behind(0, 0), 3);
        Check.due("ballast(24)", x.ballast(24), -1);
        Check.due("ballast(-1)", x.ballast(-1), -1);
        Check.due("behind(24, 0)", x.behind(24, 0), -1);
        Check.due("behind(0, 3)", x.behind(0, 3), -1);
        Check.due("behind(0, -1)", x.behind(0, -1), -1);
        Check.due("one bend", Check.of("bend a 0;").behind(0, 0), -1);
        x.load(0, false);
        x.load(1, true);
        Check.due("iron is too heavy", x.ballast(0), -2);
        Check.due("behind", x.behind(0, 1), -2);
        // Too light at the lowest, where any number may come; asked behind the change.
        x = Check.of("bend a 90;bend b 0;bag s 1 1;horse 4 4;stone 1;");
        x.tie(0, 1);
        Check.due("9 lift, 4 are held: five stones, 4 are pulled", x.ballast(0), -2);
        x = Check.of("bend a 90;bend b 0;bend c 0;bag s 1 1;horse 5 4;stone 1;");
        x.tie(0, 1);
        Check.due("five", x.ballast(0), 1);
        Check.due("five", x.behind(0, 0), 5);
        Check.due("five", x.behind(0, 1), 5);
        // At b it would be lost without the stones, so that it must take them on to c, where they are too much.
        x = Check.of("bend a 0;bend b 90;bend c 0;bag s 1 1;horse 49 4;stone 1;law pull 99*(height>0)+4;");
        x.tie(0, 1);
        x.stones(5);
        Check.due("asked behind the change, too", x.ballast(0), -2);
        // Up by one stone at each.
        x = Check.of("bend a 0;bend b 0;bend c 0;bend d 0;bag s 1 1;depot b 1;depot c 9;horse 1 0;stone 1;warm 0 1 2 3;"
            + "law lift air;law pull (hour<3);");
        x.tie(0, 1);
        Check.due("1 or 2, 2 or 3, 3", x.ballast(0), 2);
        Check.due("a", x.behind(0, 0), 2);
        Check.due("b", x.behind(0, 1), 2);
        Check.due("c", x.behind(0, 2), 3);
        Check.due("d", x.behind(0, 3), 3);
        x.stones(1);
        Check.due("two more, at b and c, as b has but one", x.ballast(0), 2);
        Check.due("a", x.behind(0, 0), 1);
        Check.due("b", x.behind(0, 1), 2);
        x.stones(2);
        Check.due("2 at hour 1 is pulled, 2 at hour 2, 3 at hour 3", x.ballast(0), 1);
        Check.due("b", x.behind(0, 1), 2);
        Check.due("c", x.behind(0, 2), 3);
    }

    private static void ropes() {
        UphillCarts x = Check.of(ROAD + "rope 15;");
        Check.due("none needed", x.ropes(0), 0);
        x.load(0, true);
        x.tie(0, 2);
        Check.due("20 below 0 at the top: 5 and 15", x.ropes(0), 4);
        x.load(0, false);
        Check.due("20 at mid, 40 at the top", x.ropes(0), -2);
        x.tie(0, 1);
        Check.due("10 at mid, 20 at the top", x.ropes(0), 6);
        x.load(1, true);
        Check.due("stuck", x.ropes(0), -2);
        Check.due("ropes(24)", x.ropes(24), -1);
        Check.due("ropes(-1)", x.ropes(-1), -1);
        Check.due("one bend", Check.of("bend a 0;").ropes(0), -1);
        x = Check.of("bend a 80;bend b 0;bag s 2 1;");
        x.tie(0, 1);
        Check.due("at the lowest, 10 and 10", x.ropes(0), 1);
    }

    private static void meeting() {
        UphillCarts x = Check.of("bend a 0;bend b 0 wide;bend c 0;bend d 0 wide;");
        Check.due("0 and 1: at c, hour 2", x.meet(0, 1, 0), 2);
        Check.due("hour", x.meet(0, 1, 1), 2);
        Check.due("0 and 0: between b and c", x.meet(0, 0, 0), -2);
        Check.due("hour ahead", x.meet(0, 0, 1), 1);
        Check.due("23 and 23", x.meet(23, 23, 1), 24);
        Check.due("0 and 3: at d as it comes", x.meet(0, 3, 0), 3);
        Check.due("hour", x.meet(0, 3, 1), 3);
        Check.due("0 and 4: done", x.meet(0, 4, 0), -3);
        Check.due("hour", x.meet(0, 4, 1), -3);
        Check.due("3 and 0: at a as it goes", x.meet(3, 0, 0), 0);
        Check.due("hour", x.meet(3, 0, 1), 3);
        Check.due("4 and 0", x.meet(4, 0, 0), -3);
        Check.due("2 and 0: between a and b", x.meet(2, 0, 0), -2);
        Check.due("hour ahead", x.meet(2, 0, 1), 2);
        Check.due("no day behind 23", x.meet(0, 23, 0), -3);
        Check.due("meet(24, 0, 0)", x.meet(24, 0, 0), -1);
        Check.due("meet(0, -1, 0)", x.meet(0, -1, 0), -1);
        Check.due("meet(0, 0, 2)", x.meet(0, 0, 2), -1);
        Check.due("meet(0, 0, -1)", x.meet(0, 0, -1), -1);
        Check.due("one bend", Check.of("bend a 0;").meet(0, 0, 0), -1);
        Check.due("1 and 0: at b, wide", x.waits(1, 0), 0);
        Check.due("0 and 0: between, c, between, d", x.waits(0, 0), 3);
        Check.due("2 and 0: between, then b", x.waits(2, 0), 1);
        Check.due("3 and 0: a, between, b", x.waits(3, 0), 2);
        Check.due("0 and 4", x.waits(0, 4), 0);
        Check.due("23 and 23: into the next day", x.waits(23, 23), 3);
        Check.due("waits(24, 0)", x.waits(24, 0), -1);
        Check.due("waits(0, -1)", x.waits(0, -1), -1);
        Check.due("one bend", Check.of("bend a 0;").waits(0, 0), -1);
        Check.due("none is wide", Check.of("bend a 0;bend b 0;bend c 0;").waits(5, 3), 5);
    }

    private static void worth() {
        UphillCarts x = Check.of("bend a 10;bend b 25;bend c 5;bend d 60;bend e 40;goods g 1 10 20;goods h 1 20 10;");
        Check.due("lowest", x.worth(0, 0), 10);
        Check.due("10 * 15 / 30", x.worth(0, 1), 15);
        Check.due("10 * -5 / 30, cut", x.worth(0, 2), 9);
        Check.due("10 * 50 / 30", x.worth(0, 3), 26);
        Check.due("last", x.worth(0, 4), 20);
        Check.due("-10 * 15 / 30", x.worth(1, 1), 15);
        Check.due("-10 * 50 / 30, cut", x.worth(1, 3), 4);
        Check.due("worth(2, 0)", x.worth(2, 0), -1);
        Check.due("worth(-1, 0)", x.worth(-1, 0), -1);
        Check.due("worth(0, 5)", x.worth(0, 5), -1);
        Check.due("worth(0, -1)", x.worth(0, -1), -1);
        x = Check.of("bend a 10;bend b 25;bend c 10;goods g 1 10 20;");
        Check.due("alike", x.worth(0, 1), 10);
        Check.due("one bend", Check.of("bend a 10;goods g 1 7 20;").worth(0, 0), 7);
    }

    private static void landing() {
        UphillCarts x = Check.of("bend a 0 wind 1;bend b 8 wind 5;bend c 8 wind 9;bend d 21 wind -2;bend e 7;");
        Check.due("at 0 already", x.lands(0), 0);
        Check.due("8, 1, -6: by 1", x.lands(1), 11);
        Check.due("the same", x.lands(2), 21);
        Check.due("21, 14: 5 of the first, 7: 0, 0: 1", x.lands(3), 36);
        Check.due("7, 0: by 1", x.lands(4), 41);
        Check.due("lands(5)", x.lands(5), MIN_VALUE);
        Check.due("lands(-1)", x.lands(-1), MIN_VALUE);
        Check.due("none below", Check.of("bend a 50 wind 9;bend b 50 wind 9;").lands(1), 10);
    }

    private static void seeing() {
        UphillCarts x = Check.of("bend a 0;bend b 50;goods g 10 0 0;goods h 20 0 0;bag s 2 3;");
        Check.due("all", x.fits(), 160);
        Check.due("fit(159, 0)", x.fit(159, 0), 3);
        Check.due("fit(159, 1)", x.fit(159, 1), 3);
        Check.due("fit(159, 2)", x.fit(159, 2), 9);
        Check.due("fit(160, 0)", x.fit(160, 0), -2);
        Check.due("fit(-1, 0)", x.fit(-1, 0), -1);
        Check.due("fit(0, 3)", x.fit(0, 3), -1);
        Check.due("fit(0, -1)", x.fit(0, -1), -1);
        Check.due("see(2, 0, 0, 0)", x.see(2, 0, 0, 0), -1);
        Check.due("see(-1, 0, 0, 0)", x.see(-1, 0, 0, 0), -1);
        Check.due("see(0, 24, 0, 0)", x.see(0, 24, 0, 0), -1);
        Check.due("see(0, -1, 0, 0)", x.see(0, -1, 0, 0), -1);
        Check.due("low", x.see(0, 0, -10000, 0), -1);
        Check.due("high", x.see(0, 0, 0, 10000), -1);
        Check.due("high below low", x.see(0, 0, 1, 0), -1);
        Check.due("none of them", x.count(7), 0);
        // 12 .. 17 pounds below: 15 alone is one of 10, 20, 30 and 5 each.
        Check.due("see", x.see(0, 0, 12, 17), 0);
        Check.due("3 stones, or g and 1, by 0 .. 3 bags", x.fits(), 8);
        Check.due("by goods", x.fit(3, 0), 0);
        Check.due("then bags", x.fit(3, 1), 3);
        Check.due("stones", x.fit(3, 2), 3);
        Check.due("by goods", x.fit(4, 0), 1);
        Check.due("then bags", x.fit(4, 1), 0);
        Check.due("stones", x.fit(4, 2), 1);
        Check.due("g in some", x.sure(0), 2);
        Check.due("h in none", x.sure(1), 0);
        Check.due("sure(2)", x.sure(2), -1);
        Check.due("sure(-1)", x.sure(-1), -1);
        Check.due("two bags", x.see(1, 5, -5, -5), 1);
        Check.due("two", x.fits(), 2);
        Check.due("two bags", x.fit(0, 1), 2);
        Check.due("widest", x.see(1, 5, -9999, 9999), 2);
        Check.due("two still", x.fits(), 2);
        Check.due("both in", Check.of("bend a 0;goods g 60 0 0;").sure(0), 2);
        UphillCarts y = Check.of("bend a 0;goods g 60 0 0;");
        y.see(0, 0, 60, 200);
        Check.due("g in all", y.sure(0), 1);
        y.see(0, 0, -9, -9);
        Check.due("none", y.fits(), 0);
        Check.due("none", y.fit(0, 0), -2);
        Check.due("none", y.sure(0), -2);
        Check.due("no such, though none fits", y.sure(1), -1);
        for (int i = 2; i < 24; i++) {
            Check.due("see", y.see(0, 0, 0, 0), i);
        }
        Check.due("a 25th", y.see(0, 0, 0, 0), -1);
        Check.due("a 25th", y.strike(0), -1);
        Check.due("24", y.count(7), 24);
    }

    private static void striking() {
        UphillCarts x = Check.of("bend a 0;");
        Check.due("strike(0)", x.strike(0), -1);
        Check.due("strike(-1)", x.strike(-1), -1);
        x.see(0, 0, 0, 9);
        x.see(0, 0, 5, 20);
        Check.due("5 alone", x.fits(), 1);
        Check.due("strike the first", x.strike(0), 2);
        Check.due("5, 10, 15, 20", x.fits(), 4);
        Check.due("strike the strike", x.strike(2), 3);
        Check.due("5 alone", x.fits(), 1);
        Check.due("strike that", x.strike(3), 4);
        Check.due("5 .. 20", x.fits(), 4);
        Check.due("strike(5)", x.strike(5), -1);
        int[] fits = {10, 2, 1, 4, 1, 4};
        for (int n = 0; n <= 5; n++) {
            Check.due("known(" + n + ")", x.known(n), true);
            Check.due("by " + n, x.count(8), n);
            Check.due("fits by " + n, x.fits(), fits[n]);
        }
        Check.due("known(6)", x.known(6), false);
        Check.due("known(-2)", x.known(-2), false);
        Check.due("by 5 still", x.count(8), 5);
        x.see(0, 0, 10, 10);
        Check.due("not known", x.fits(), 4);
        Check.due("by 5 still", x.count(8), 5);
        Check.due("known(-1)", x.known(-1), true);
        Check.due("by all", x.count(8), 6);
        Check.due("10 alone", x.fits(), 1);
        x.strike(5);
        Check.due("those to come, too", x.fits(), 4);
    }

    private static void chances() {
        UphillCarts x = Check.of("bend a 0;bend b 0;bend c 0;goods g 45 0 0;bag s 1 1;thief b 50;law lift 9;law pull 40;");
        Check.due("chance(-1)", x.chance(-1), -1);
        Check.due("one bend", Check.of("bend a 0;").chance(0), -1);
        Check.due("empty", x.chance(1), 10);
        x.load(0, true);
        Check.due("too heavy", x.chance(1), 0);
        x.tie(0, 1);
        for (int seed = 0; seed < 30; seed++) {
            int safe = 0;
            for (int number : Check.numbers(seed, 10)) {
                safe += number % 100 >= 50 ? 1 : 0;
            }
            Check.due("chance(" + seed + ")", x.chance(seed), safe);
        }
        int safe = 0;
        for (int number : Check.numbers(Integer.MAX_VALUE, 10)) {
            safe += number % 100 >= 50 ? 1 : 0;
        }
        Check.due("the greatest seed", x.chance(Integer.MAX_VALUE), safe);
        Check.due("the cart is where it was", x.count(5), 0);
        Check.due("with its bag", x.count(12), 1);
        x.load(0, false);
        x.go(2);
        Check.due("up already", x.chance(1), 10);
        // At hour 5 alone the horse pulls: within 30 hours it gets one bend further, or two.
        x = Check.of("bend a 0;bend b 0;bend c 0;goods g 45 0 0;law pull 99*(hour=5);");
        x.load(0, true);
        x.at(23);
        Check.due("30 hours: 5 comes twice, the last of them", x.chance(1), 10);
        x.at(22);
        Check.due("once", x.chance(1), 0);
        x.at(0);
        Check.due("5 and 29: twice", x.chance(1), 10);
        x.at(5);
        Check.due("29 alone", x.chance(1), 0);
        x.at(4);
        Check.due("5 and 29", x.chance(1), 10);
        x = Check.of("bend a 90;bend b 90;bag s 9 1;horse 9 0;");
        x.tie(0, 1);
        x.go(1);
        Check.due("lost", x.chance(1), 0);
    }

    private static void trials() {
        String road = "bend a 0;bend b 0 wind -4;bend c 0 wind 9;goods g 30 0 0;goods h 5 0 0;bag s 1 1;bag t 2 1;";
        UphillCarts x = Check.of(road + "warm 5 9;law lift size*0;law pull 20+air;");
        x.load(0, true);
        Check.due("20 + 9 and 20 + 5 are less", x.led(0, 0), 0);
        Check.due("of no goods 1", x.tried(2, 1, 0), 0);
        Check.due("of no goods 0", x.tried(2, 0, 0), 2);
        Check.due("no such goods", x.tried(2, 2, 0), -1);
        Check.due("no such sort", x.tried(3, 2, 0), -1);
        x.load(0, false);
        x.stones(5);
        Check.due("25 by 29 and 25", x.led(0, 0), 2);
        x.load(1, true);
        Check.due("30 by 29", x.led(0, 0), 0);
        Check.due("no stones", x.tried(4, 0, 0), 2);
        Check.due("without h", x.tried(2, 1, 0), 2);
        Check.due("9 always", x.tried(0, 0, 0), 0);
        x.stones(4);
        Check.due("25 by 25", x.led(1, 0), 2);
        x = Check.of(road + "law lift 0;law pull 18+air;stone 4;");
        x.stones(6);
        Check.due("24 by 23", x.led(0, 0), 0);
        Check.due("by 27", x.tried(0, 0, 0), 2);
        Check.due("then as it was", x.led(0, 0), 0);
        x = Check.of(road + "law lift 0;law pull 30-gust;stone 5;");
        x.stones(5);
        Check.due("25 by 26, by 21", x.led(0, 0), 1);
        Check.due("no wind", x.tried(1, 0, 0), 2);
        x = Check.of(road + "horse 20 1;");
        x.stones(8);
        Check.due("40 by 20", x.led(0, 0), 0);
        Check.due("by 40", x.tried(5, 0, 0), 2);
        x.stones(9);
        Check.due("45 by 40", x.tried(5, 0, 0), 0);
        x = Check.of(road + "horse 20 1;law pull size;");
        x.stones(8);
        Check.due("size of pull is twice as much, too", x.tried(5, 0, 0), 2);
        x = Check.of("bend a 0;bend b 50;bend c 90;bag s 1 1;bag t 2 1;horse 20 10;");
        x.tie(0, 1);
        x.tie(1, 1);
        Check.due("lost at b by 15", x.led(0, 0), 1);
        Check.due("by 10, then 18: lost at c", x.tried(3, 0, 0), 2);
        Check.due("by 5, then 9: up", x.tried(3, 1, 0), 2);
        int[][] none = {{0, 1, 0}, {1, -1, 0}, {4, 1, 0}, {5, 1, 0}, {6, 0, 0}, {-1, 0, 0}, {0, 0, 24}, {0, 0, -1}, {2, 0, 0}, {3, -1, 0}};
        for (int[] a : none) {
            Check.due("tried(" + a[0] + ", " + a[1] + ", " + a[2] + ")", x.tried(a[0], a[1], a[2]), -1);
        }
        Check.due("one bend", Check.of("bend a 0;").tried(0, 0, 0), -1);
    }

    private static void undoing() {
        UphillCarts x = Check.of(ROAD);
        Check.due("none", x.undo(), -1);
        x.load(0, true);
        x.tie(0, 2);
        x.stones(4);
        x.at(7);
        x.load(0, false);
        x.load(0, false);
        x.stones(10);
        Check.due("five", x.count(9), 5);
        Check.due("go(0) leaves them", x.go(0), 0);
        Check.due("undo", x.undo(), 4);
        Check.due("goods", x.count(11), 1);
        Check.due("undo", x.undo(), 3);
        Check.due("hour", x.count(4), 0);
        Check.due("undo", x.undo(), 2);
        Check.due("stones", x.count(10), 0);
        Check.due("undo", x.undo(), 1);
        Check.due("bags", x.count(12), 0);
        Check.due("undo", x.undo(), 0);
        Check.due("goods", x.count(11), 0);
        Check.due("none left", x.undo(), -1);
        for (int i = 1; i <= 23; i++) {
            x.at(i);
        }
        Check.due("20 at most", x.count(9), 20);
        for (int i = 19; i >= 0; i--) {
            Check.due("undo", x.undo(), i);
            Check.due("hour", x.count(4), i + 3);
        }
        Check.due("hour", x.count(4), 3);
        Check.due("none left", x.undo(), -1);
        x.stones(2);
        x.go(51);
        Check.due("no such go", x.count(9), 1);
        x.go(1);
        Check.due("none behind a go", x.undo(), -1);
        x.trade(2);
        x.trade(-1);
        Check.due("two", x.count(9), 2);
        Check.due("undo", x.undo(), 1);
        Check.due("stones", x.count(10), 4);
        Check.due("depot", x.look(1, 3), 1);
        Check.due("undo", x.undo(), 0);
        Check.due("stones", x.count(10), 2);
        Check.due("depot", x.look(1, 3), 3);
    }

    private static void images() {
        UphillCarts x = Check.of(ROAD);
        Check.due("none", x.back(), -1);
        x.at(22);
        x.stones(2);
        x.go(1);
        x.trade(1);
        Check.due("keep", x.keep(), 23);
        Check.due("undoable still", x.count(9), 1);
        x.trade(1);
        x.see(0, 0, 1, 1);
        x.go(1);
        Check.due("up", x.count(6), 1);
        Check.due("back", x.back(), 23);
        Check.due("bend", x.count(5), 1);
        Check.due("state", x.count(6), 0);
        Check.due("stones", x.count(10), 3);
        Check.due("depot", x.look(1, 3), 2);
        Check.due("nothing to undo", x.count(9), 0);
        Check.due("seen stays", x.count(7), 1);
        x.go(1);
        Check.due("back again", x.back(), 23);
        x.go(1);
        Check.due("keep in place of it", x.keep(), 0);
        Check.due("back", x.back(), 0);
        Check.due("bend", x.count(5), 2);
        x = Check.of(ROAD);
        x.see(0, 0, 0, 0);
        x.known(0);
        x.keep();
        x.known(-1);
        x.back();
        Check.due("known as in the image", x.count(8), 0);
    }

    private static void counts() {
        UphillCarts x = Check.of(ROAD + "bag t 1 3;law lift 1+2;");
        x.load(1, true);
        x.tie(0, 1);
        x.tie(1, 3);
        x.stones(6);
        x.at(9);
        x.see(0, 0, 0, 0);
        x.see(0, 0, 0, 0);
        x.known(1);
        int[] all = {3, 2, 2, 3, 9, 0, 0, 2, 1, 5, 6, 2, 13, 3};
        for (int what = 0; what < all.length; what++) {
            Check.due("count(" + what + ")", x.count(what), all[what]);
        }
        Check.due("count(14)", x.count(14), -1);
        Check.due("count(-1)", x.count(-1), -1);
    }
}
