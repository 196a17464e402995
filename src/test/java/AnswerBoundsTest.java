import static java.lang.Integer.MAX_VALUE;
import static java.lang.Integer.MIN_VALUE;

/** "==== 3" and promises 19 to 38: each sentence that names a boundary case has its own answers here, under its own words. */
public final class AnswerBoundsTest {
    private static final String NINE = "bend a 0;bend b 0;bend c 0;bend d 0;bend e 0;bend f 0;bend g 0;bend h 0;bend i 0;";

    public static void main(String[] args) {
        led();
        when();
        span();
        mostIsTheGreatest();
        mostOfSeveral();
        mostOfNoSuch();
        ballastAtTheLowest();
        ballastAtOthers();
        ballastLost();
        ballastOfSeveral();
        ballastOfAnotherText();
        asMuchAsCanBe();
        ballastOfNoSuch();
        ropes();
        meet();
        waits();
        worth();
        toll();
        lands();
        see();
        strike();
        known();
        fits();
        sure();
        chance();
        triedOtherwise();
        triedNoSuch();
        Check.end("AnswerBoundsTest");
    }

    private static int[] beyond(int low, int high) {
        return new int[] {low - 1, high + 1, MIN_VALUE, MAX_VALUE, MIN_VALUE + high, (1 << 30) + low};
    }

    private static void led() {
        Check.says("at the lowest BEND it is LOST, if NET is below 0 by more than the horse HOLDS");
        UphillCarts x = Check.of("bend a 0;bend b 0;bend c 0;bag s 1 1;horse 9 7;law lift hour;");
        x.tie(0, 1);
        Check.due("8 at hour 8", x.led(8, 1), 3);
        Check.due("there", x.led(8, 0), 0);
        Check.due("23, though 0 follows", x.led(23, 1), 3);
        Check.due("there", x.led(23, 0), 0);
        Check.says("the last BEND at which it is (where it is LOST, too)");
        Check.due("7 at hour 7, 8 at b", x.led(7, 1), 3);
        Check.due("b", x.led(7, 0), 1);
        Check.due("8 at c", x.led(6, 1), 3);
        Check.due("c, the last", x.led(6, 0), 2);
        Check.due("7 at c: up", x.led(5, 1), 1);
        Check.due("c", x.led(5, 0), 2);
        Check.says("if it is above PULL, it is STUCK where it is");
        x = Check.of("bend a 0;bend b 0;bend c 0;goods g 8 0 0;law pull hour;");
        x.load(0, true);
        Check.due("8 by 7, at the lowest", x.led(6, 1), 2);
        Check.due("there", x.led(6, 0), 0);
        Check.due("8 by 8, 8 by 9", x.led(7, 1), 1);
        Check.due("8 by 23, 8 by 0: stuck at b", x.led(22, 1), 2);
        Check.due("b", x.led(22, 0), 1);
        Check.due("23 is followed by 0", x.led(23, 1), 2);
        Check.due("the cart is where it was", x.count(5) + x.count(4), 0);
        // Wherever the CART is, a WAY begins at the lowest BEND.
        x.at(7);
        x.go(1);
        Check.due("the cart is at b", x.count(5), 1);
        Check.due("stuck at the lowest", x.led(6, 0), 0);
        Check.says("NONE: no such ones, fewer than 2 BENDS.");
        for (int hour : beyond(0, 23)) {
            Check.due("led(" + hour + ", 0)", x.led(hour, 0), -1);
            Check.due("led(" + hour + ", 1)", x.led(hour, 1), -1);
        }
        for (int what : beyond(0, 1)) {
            Check.due("led(0, " + what + ")", x.led(0, what), -1);
        }
    }

    private static UphillCarts onlyAt(String hours) {
        UphillCarts x = Check.of("bend a 0;bend b 0;goods g 5 0 0;law pull 9*(" + hours + ");");
        x.load(0, true);
        return x;
    }

    private static void when() {
        Check.says("WHEN: HOURS 0 .. 23 (bits) from which a WAY of the LOAD comes UP");
        Check.due("all", onlyAt("1").when(), 0xffffff);
        Check.due("none", onlyAt("0").when(), 0);
        Check.due("to 0 from 23", onlyAt("hour=0").when(), 1 << 23);
        Check.due("to 23 from 22", onlyAt("hour=23").when(), 1 << 22);
        Check.due("to 1 from 0", onlyAt("hour=1").when(), 1);
        UphillCarts x = Check.of(NINE + "goods g 5 0 0;law pull 9*(hour<>0);");
        x.load(0, true);
        Check.due("eight hours of which none is 0", x.when(), 0xffff);
        x = Check.of(NINE + "bag s 1 1;horse 9 0;law lift hour=0;");
        x.tie(0, 1);
        Check.due("nine hours of which none is 0", x.when(), 0xfffe);
    }

    private static void span(String words, UphillCarts x, int first, int hours) {
        Check.due(words + ", span(0)", x.span(0), first);
        Check.due(words + ", span(1)", x.span(1), hours);
    }

    private static void span() {
        Check.says("SPAN: the longest row of such HOURS (0 behind 23), of several the one that begins at the least HOUR; all 24: from 0 on.");
        span("all", onlyAt("1"), 0, 24);
        span("to 0 alone", onlyAt("hour=0"), 23, 1);
        span("to 1 alone", onlyAt("hour=1"), 0, 1);
        span("from 23 and from 0", onlyAt("hour<2"), 23, 2);
        span("from 22 to 0, from 5 to 7", onlyAt("hour<2 or hour=23 or hour>5 and hour<9"), 5, 3);
        span("from 22 to 0, from 5 to 6", onlyAt("hour<2 or hour=23 or hour>5 and hour<8"), 22, 3);
        span("from 21 to 23, from 5 to 7", onlyAt("hour=0 or hour>21 or hour>5 and hour<9"), 5, 3);
        span("from 0 to 2, from 5 to 7", onlyAt("hour>0 and hour<4 or hour>5 and hour<9"), 0, 3);
        span("all but from 0", onlyAt("hour<>1"), 1, 23);
        span("all but from 23", onlyAt("hour<>0"), 0, 23);
        span("all but from 11", onlyAt("hour<>12"), 12, 23);
        span("all but from 0 and from 12", onlyAt("hour<>1 and hour<>13"), 1, 11);
        Check.says("its first HOUR (NONE: none), 1: how many HOURS (0). NONE for another what.");
        span("none", onlyAt("0"), -1, 0);
        for (int what : beyond(0, 1)) {
            Check.due("span(" + what + ")", onlyAt("1").span(what), -1);
            Check.due("none, span(" + what + ")", onlyAt("0").span(what), -1);
        }
    }

    private static void most(UphillCarts x, int hour, int sum, int goods, int bags, int stones) {
        int[] all = {sum, goods, bags, stones};
        for (int what = 0; what < 4; what++) {
            Check.due("most(" + hour + ", " + what + ")", x.most(hour, what), all[what]);
        }
    }

    private static void mostIsTheGreatest() {
        Check.says("LOADS whose WAY comes UP: the greatest sum of ABOVE less BELOW");
        most(Check.of("bend a 0;bend b 0;"), 0, 0, 0, 0, 0);
        most(Check.of("bend a 0;bend b 0;goods g 1 5 5;"), 0, 0, 0, 0, 0);
        most(Check.of("bend a 0;bend b 0;goods g 1 99 0;goods h 1 0 1;"), 0, 1, 2, 0, 0);
        String six = "goods f 60 0 99;goods g 60 0 99;goods h 60 0 99;goods i 60 0 99;goods j 60 0 99;goods k 60 0 99;";
        most(Check.of("bend a 0;bend b 0;" + six + "law pull 999;"), 23, 594, 63, 0, 0);
        most(Check.of("bend a 0;bend b 0;" + six + "law pull 360;"), 0, 594, 63, 0, 0);
        most(Check.of("bend a 0;bend b 0;" + six + "law pull 359;"), 0, 495, 31, 0, 0);
        most(Check.of("bend a 0;bend b 0;" + six + "law pull 59;"), 0, 0, 0, 0, 0);
        // From 23 on the HOUR is 0 then.
        UphillCarts x = Check.of("bend a 0;bend b 0;goods g 5 0 7;law pull 5*(hour=0);");
        most(x, 23, 7, 1, 0, 0);
        most(x, 22, 0, 0, 0, 0);
        // By a BAG alone they come up, which lifts 40 at the lowest, where 9 are held: g, 30, is LOST there, h, 31, is not.
        most(Check.of("bend a 40;bend b 30;goods g 30 0 9;goods h 31 0 8;bag s 1 1;horse 1 9;stone 20;law lift height;law pull 1;"),
            0, 8, 2, 1, 0);
        // What the CART has, and where it is, is no matter.
        x.stones(9);
        most(x, 23, 7, 1, 0, 0);
        x.stones(0);
        x.go(1);
        most(x, 23, 7, 1, 0, 0);
    }

    private static void mostOfSeveral() {
        Check.says("of several the fewest stones, then the least GOODS, then the least BAGS");
        // A BAG lifts 30 above, 10 are pulled, none is held: g, 25, takes a BAG and a stone, h, 30, a BAG alone.
        most(Check.of("bend a 0;bend b 9;goods g 25 0 10;goods h 30 0 10;bag s 1 1;horse 9 0;law lift 30*(height>0);law pull 10;"),
            0, 10, 2, 1, 0);
        // g, 40, takes a BAG, h, 10, takes none: both without stones, so the least GOODS.
        most(Check.of("bend a 0;bend b 9;goods g 40 0 10;goods h 10 0 10;bag s 1 1;horse 9 0;law lift 30*(height>0);law pull 10;"),
            0, 10, 1, 1, 0);
        // One BAG of either sort: the least BAGS.
        most(Check.of("bend a 0;bend b 9;goods g 40 0 10;bag s 1 3;bag t 1 3;horse 9 0;law lift 30*(height>0);law pull 10;"), 0, 10, 1, 1, 0);
        // Two of the first sort, 40, or one of the second, 30: 2 is less than 4.
        most(Check.of("bend a 0;bend b 9;goods g 40 0 10;bag s 2 2;bag t 3 1;horse 9 0;stone 1;law lift 10*size*(height>0);law pull 10;"),
            0, 10, 1, 2, 0);
        // 21 twice are 42, two too many, so two stones; 30 once are enough without: the fewest stones.
        most(Check.of("bend a 0;bend b 9;goods g 40 0 10;bag s 2 2;bag t 3 1;horse 9 0;stone 1;law lift (21*(size=2)+30*(size=3))*(height>0);"
            + "law pull 10;"), 0, 10, 1, 4, 0);
        // Nine stones and no fewer.
        most(Check.of("bend a 0;bend b 9;goods g 52 0 10;bag s 1 1;horse 9 0;stone 5;law lift 97*(height>0);law pull 0;"), 0, 10, 1, 1, 9);
        most(Check.of("bend a 0;bend b 9;goods g 51 0 10;bag s 1 1;horse 9 0;stone 5;law lift 97*(height>0);law pull 0;"), 0, 0, 0, 0, 0);
    }

    private static void mostOfNoSuch() {
        Check.says("-2: no LOAD comes UP; NONE: no such ones, fewer than 2 BENDS.");
        UphillCarts x = Check.of("bend a 0;bend b 0;goods g 1 0 1;");
        for (int hour : beyond(0, 23)) {
            Check.due("most(" + hour + ", 0)", x.most(hour, 0), -1);
        }
        for (int what : beyond(0, 3)) {
            Check.due("most(0, " + what + ")", x.most(0, what), -1);
        }
        // The empty one comes UP always.
        most(Check.of("bend a 99;bend b 0;bend c 99;horse 1 0;law pull 0;law lift 99;goods g 1 0 1;"), 0, 0, 0, 0, 0);
    }

    private static void behind(UphillCarts x, int hour, int changes, int... stones) {
        Check.due("ballast(" + hour + ")", x.ballast(hour), changes);
        for (int bend = 0; bend < stones.length; bend++) {
            Check.due("behind(" + hour + ", " + bend + ")", x.behind(hour, bend), stones[bend]);
        }
    }

    private static void ballastAtTheLowest() {
        Check.says("at the lowest any");
        // At b a BAG lifts 9 or 10, none is held and none is pulled: as many stones of 1 there, no more, no fewer.
        UphillCarts x = Check.of("bend a 0;bend b 9;bag s 1 1;horse 1 0;stone 1;law lift height;law pull 0;");
        x.tie(0, 1);
        behind(x, 0, 1, 9, 9);
        x.stones(9);
        behind(x, 0, 0, 9, 9);
        x.stones(8);
        behind(x, 0, 1, 9, 9);
        x.tie(0, 0);
        x.stones(9);
        behind(x, 0, 1, 0, 0);
        x = Check.of("bend a 0;bend b 10;bag s 1 1;horse 1 0;stone 1;law lift height;law pull 0;");
        x.tie(0, 1);
        behind(x, 0, -2, -2, -2);
        Check.says("(from the stones now)");
        UphillCarts y = Check.of("bend a 0;bend b 0;bend c 0;depot b 9;");
        y.stones(4);
        behind(y, 23, 0, 4, 4, 4);
        y.go(2);
        behind(y, 0, 0, 4, 4, 4);
    }

    private static void ballastAtOthers() {
        Check.says("at others as many more at most as the depot has now, or fewer by any");
        // At c a BAG lifts the HEIGHT, none is held: at least as many stones of 1; to b none is pulled.
        String road = "bend a 0;bend b 0;bend c 5;bag s 1 1;horse 1 0;stone 1;law lift height*(height>1);law pull height;depot b ";
        UphillCarts x = Check.of(road + "5;");
        x.tie(0, 1);
        behind(x, 0, 1, 0, 5, 5);
        x = Check.of(road + "4;");
        x.tie(0, 1);
        behind(x, 0, -2, -2, -2, -2);
        x = Check.of("bend a 0;bend b 0;bend c 5;bag s 1 1;horse 1 0;stone 1;law lift height*(height>1);law pull height;");
        x.tie(0, 1);
        behind(x, 0, -2, -2, -2, -2);
        // Fewer by any: nine at b, none at c, where no depot is told.
        x = Check.of("bend a 0;bend b 9;bend c 0;bag s 1 1;horse 1 0;stone 1;law lift height;law pull 0;");
        x.tie(0, 1);
        x.stones(9);
        behind(x, 0, -2);
        x = Check.of("bend a 0;bend b 9;bend c 0;bag s 1 1;horse 1 9;stone 1;law lift height;law pull 9*(height=9);");
        x.tie(0, 1);
        x.stones(9);
        behind(x, 0, 1, 0, 0, 0);
        Check.says("as the depot has now");
        // To b two are pulled, at c at least four must be on it, so that two more come of b's depot.
        x = Check.of("bend a 0;bend b 0;bend c 4;bend d 0;bag s 1 1;horse 1 0;stone 1;depot b 2;law lift height;law pull 2+height*9+9*(slope=0)*(hour<>1);");
        x.tie(0, 1);
        x.stones(2);
        behind(x, 0, 1, 2, 4, 4, 4);
        x.go(1);
        x.trade(1);
        x.undo();
        behind(x, 0, 1, 2, 4, 4, 4);
        Check.due("one less at the depot", x.trade(1), 3);
        x.trade(-1);
        x.trade(1);
        x.go(0);
        Check.due("from three now: two at the lowest, then one more of the depot's is not enough", x.ballast(0), -2);
        x.trade(-3);
        Check.due("four at the depot", x.look(1, 3), 4);
        behind(x, 0, 1, 0, 4, 4, 4);
        Check.says("(of the last one as it comes)");
        x = Check.of("bend a 0;bend b 0;depot b 9;");
        x.stones(7);
        behind(x, 0, 0, 7, 7);
    }

    private static void ballastLost() {
        Check.says("ahead of the next HOUR (whether it is LOST where it is, is asked behind that, too)");
        // At the lowest a BAG lifts 5, 2 are held: at least 3 stones of 1 behind it; b pulls 3, or 2.
        String road = "bend a 5;bend b 0;bag s 1 1;horse 1 2;stone 1;law lift height;law pull ";
        UphillCarts x = Check.of(road + "3;");
        x.tie(0, 1);
        behind(x, 0, 1, 3, 3);
        x.stones(9);
        behind(x, 0, 1, 3, 3);
        x.stones(3);
        behind(x, 0, 0, 3, 3);
        x = Check.of(road + "2;");
        x.tie(0, 1);
        behind(x, 0, -2, -2, -2);
        // At b the same: it comes with 3, and can leave with 3 alone, though c pulls 2.
        road = "bend a 0;bend b 5;bend c 0;bag s 1 1;horse 1 2;stone 1;law lift height;law pull 9*(height=5)+";
        x = Check.of(road + "2;");
        x.tie(0, 1);
        behind(x, 0, -2, -2, -2, -2);
        x = Check.of(road + "3;");
        x.tie(0, 1);
        behind(x, 0, 1, 3, 3, 3);
        x.stones(8);
        behind(x, 0, 1, 3, 3, 3);
        Check.says("so that it comes UP");
        // From 23 on it is at b at 0 and at c at 1.
        x = Check.of("bend a 0;bend b 0;bend c 0;bag s 1 1;horse 1 0;stone 1;depot b 9;law lift 3*(hour=1);law pull 3*(hour=1);");
        x.tie(0, 1);
        behind(x, 23, 1, 0, 3, 3);
        behind(x, 22, 0, 0, 0, 0);
    }

    private static void ballastOfSeveral() {
        Check.says("the fewest BENDS at which they are changed");
        // 4 at b, 4 at c, 2 at d: none, or 2, are held. From 4 none; from 0 one at the lowest.
        String road = "bend a 0;bend b 4;bend c 4;bend d 2;bag s 1 1;stone 1;depot b 9;depot c 9;law lift height;law pull 0;horse 1 ";
        UphillCarts x = Check.of(road + "0;");
        x.tie(0, 1);
        behind(x, 0, -2);
        x = Check.of(road + "2;");
        x.tie(0, 1);
        behind(x, 0, 1, 2, 2, 2, 2);
        Check.says("of several the first by BENDS: the fewest stones behind each");
        x.stones(9);
        behind(x, 0, 1, 2, 2, 2, 2);
        x.stones(2);
        behind(x, 0, 0, 2, 2, 2, 2);
        x.stones(4);
        // 4 at b is allowed, 4 at c, too, and 2 at d: one change, at a, b or c; the fewest behind a.
        behind(x, 0, 1, 2, 2, 2, 2);
        // With 3 on it nothing has to be changed, though fewer would do.
        x = Check.of("bend a 0;bend b 0;bend c 0;depot b 9;");
        x.stones(3);
        behind(x, 0, 0, 3, 3, 3);
        // At b and behind it 2 at least, to c 2 at most: changed at a or at b, and the fewest behind a.
        x = Check.of("bend a 0;bend b 9;bend c 1;bag s 1 1;horse 1 0;stone 1;law lift 2*(height=9)+0*size;law pull 9*(height=9)+2;");
        x.tie(0, 1);
        x.stones(5);
        behind(x, 0, 1, 2, 2, 2);
        x.stones(2);
        behind(x, 0, 0, 2, 2, 2);
        // Behind c 4 at least, to d 1 at most: it can't be; without the BAG any few will do.
        x = Check.of("bend a 0;bend b 8;bend c 4;bend d 1;bag s 1 1;horse 1 0;stone 1;depot c 9;law lift height;law pull 9*(height>1);");
        x.tie(0, 1);
        x.stones(5);
        behind(x, 0, -2);
        x.tie(0, 0);
        behind(x, 0, 1, 0, 0, 0, 0);
    }

    /** A text told anew leaves nothing of the old one. */
    private static void ballastOfAnotherText() {
        Check.says("the fewest BENDS at which they are changed (from the stones now) so that it comes UP");
        for (int stones = 0; stones <= 9; stones++) {
            UphillCarts x = Check.of(NINE + "bag s 1 1;horse 1 0;stone 1;depot b 9;depot c 9;depot d 9;law lift 3+5*(hour=2);law pull 0;");
            x.tie(0, 1);
            behind(x, 0, -2, -2, -2, -2, -2, -2, -2, -2, -2, -2);
            behind(x, 3, 1, 3, 3, 3, 3, 3, 3, 3, 3, 3);
            for (int bends = 2; bends <= 3; bends++) {
                Check.tell(x, bends == 2 ? "bend a 0;bend b 0;stone 1;" : "bend a 0;bend b 0;bend c 0;stone 1;");
                x.stones(stones);
                behind(x, 0, 0, stones, stones);
                Check.due("the last one", x.behind(0, bends - 1), stones);
                Check.due("no more bends", x.behind(0, bends), -1);
            }
        }
    }

    /** As much of all as a text can tell. */
    private static void asMuchAsCanBe() {
        Check.says("BENDS, at most 9, one behind another as they are told (0 the lowest)");
        StringBuilder b = new StringBuilder();
        for (int i = 0; i < 9; i++) {
            b.append("bend ").append((char) ('a' + i)).append(' ').append(i * 10 + 9).append(" wind 1;");
        }
        for (int i = 0; i < 6; i++) {
            b.append("goods ").append((char) ('a' + i)).append(" 60 0 ").append(94 + i).append(";");
        }
        b.append("bag r 9 3;bag s 9 3;bag t 9 3;stone 20;horse 99 9;law pull 540;law lift 0;");
        UphillCarts x = Check.of(b.toString());
        most(x, 23, 579, 63, 0, 0);
        Check.due("99 for 60", x.toll(23), 2);
        Check.due("all", x.fits(), 40960);
        Check.due("in some", x.sure(5), 2);
        for (int goods = 0; goods < 6; goods++) {
            x.load(goods, true);
        }
        for (int sort = 0; sort < 3; sort++) {
            x.tie(sort, 3);
        }
        x.stones(9);
        behind(x, 23, 0, 9, 9, 9, 9, 9, 9, 9, 9, 9);
        Check.due("up", x.led(23, 0), 8);
        Check.due("when", x.when(), 0xffffff);
        Check.due("ropes", x.ropes(23), 0);
        Check.due("tried", x.tried(3, 2, 23), 8);
        Check.due("the last goods", x.worth(5, 8), 99);
        // 89, 82 .. 12 by 1 each, 5 and -2 by none: 80 and eleven times 1.
        Check.due("from the highest", x.lands(8), 91);
        Check.due("chance", x.chance(MAX_VALUE), 10);
        x.at(23);
        Check.due("go", x.go(50), 8);
        Check.due("hour", x.count(4), 7);
        Check.due("bits", x.count(11) + x.count(12) * 100, 6363);
    }

    private static void ballastOfNoSuch() {
        UphillCarts x = Check.of("bend a 0;bend b 0;goods g 60 0 0;");
        Check.says("BALLAST from an HOUR: how many BENDS; -2: it can't be; NONE: no such HOUR, fewer than 2 BENDS.");
        for (int hour : beyond(0, 23)) {
            Check.due("ballast(" + hour + ")", x.ballast(hour), -1);
        }
        Check.says("-2: it can't be; NONE: no such ones.");
        for (int hour : beyond(0, 23)) {
            Check.due("behind(" + hour + ", 0)", x.behind(hour, 0), -1);
        }
        for (int bend : beyond(0, 1)) {
            Check.due("behind(0, " + bend + ")", x.behind(0, bend), -1);
        }
        x.load(0, true);
        behind(x, 23, -2, -2, -2);
        for (int bend : beyond(0, 1)) {
            Check.due("no such bend, though it can't be", x.behind(0, bend), -1);
        }
    }

    private static void ropes() {
        Check.says("BENDS (bits) at which one rope more holds: the fewest by which the WAY isn't LOST anywhere and comes UP");
        // HEIGHTS tell what the BAG lifts, 5 are held, a rope holds 3 more.
        UphillCarts x = Check.of("bend a 5;bend b 6;bend c 8;bend d 0;bag s 1 1;horse 1 5;rope 3;law lift height;");
        Check.due("empty", x.ropes(0), 0);
        x.tie(0, 1);
        Check.due("5 none, 6 and 8 one, 0 none", x.ropes(0), 6);
        x.stones(1);
        Check.due("5 more by a stone", x.ropes(0), -2);
        x = Check.of("bend a 8;bend b 0;bag s 1 1;horse 1 5;rope 3;law lift height;");
        x.tie(0, 1);
        Check.due("at the lowest", x.ropes(0), 1);
        x = Check.of("bend a 0;bend b 8;bag s 1 1;horse 1 5;rope 3;law lift height;");
        x.tie(0, 1);
        Check.due("at the last", x.ropes(0), 2);
        Check.says("-2: they don't help; NONE: no such HOUR, fewer than 2 BENDS.");
        x = Check.of("bend a 0;bend b 9;bag s 1 1;horse 1 5;rope 3;law lift height;");
        x.tie(0, 1);
        Check.due("9 by 8", x.ropes(0), -2);
        x = Check.of("bend a 0;bend b 6;bag s 1 1;horse 1 5;rope 0;law lift height;");
        x.tie(0, 1);
        Check.due("a rope that holds nothing", x.ropes(0), -2);
        x = Check.of("bend a 0;bend b 5;bag s 1 1;horse 1 5;rope 0;law lift height;");
        x.tie(0, 1);
        Check.due("none is needed", x.ropes(0), 0);
        x = Check.of("bend a 0;bend b 6;bend c 0;goods g 1 0 0;bag s 1 1;horse 1 4;rope 9;law lift height;law pull 0;");
        x.tie(0, 1);
        x.load(0, true);
        Check.due("stuck behind it", x.ropes(0), -2);
        x = Check.of("bend a 0;bend b 0;bend c 0;goods g 1 0 0;law pull 9*(hour<>1);");
        x.load(0, true);
        Check.due("stuck at the lowest", x.ropes(0), -2);
        Check.due("not from 1 on", x.ropes(1), 0);
        for (int hour : beyond(0, 23)) {
            Check.due("ropes(" + hour + ")", x.ropes(hour), -1);
        }
        x = Check.of(NINE + "bag s 1 1;horse 1 0;rope 1;law lift 1;");
        x.tie(0, 1);
        Check.due("at all nine", x.ropes(0), 511);
        x = Check.of("bend a 0;bend b 0;bag s 1 1;horse 1 0;rope 1;law lift hour=0;");
        x.tie(0, 1);
        Check.due("from 23: at b it is 0", x.ropes(23), 2);
        Check.due("from 0: at a it is 0", x.ropes(0), 1);
        Check.due("from 22", x.ropes(22), 0);
    }

    private static void met(UphillCarts x, int up, int down, int where, int hour) {
        Check.due("meet(" + up + ", " + down + ", 0)", x.meet(up, down, 0), where);
        Check.due("meet(" + up + ", " + down + ", 1)", x.meet(up, down, 1), hour);
    }

    private static void meet() {
        Check.says("the BEND at which both are at one HOUR; BETWEEN two BENDS, else; or not at all (one is done, or not begun yet)");
        UphillCarts two = Check.of("bend a 0;bend b 0;");
        met(two, 0, 0, -2, 0);
        met(two, 0, 1, 1, 1);
        met(two, 1, 0, 0, 1);
        met(two, 0, 2, -3, -3);
        met(two, 2, 0, -3, -3);
        met(two, 23, 23, -2, 23);
        met(two, 22, 23, 1, 23);
        met(two, 23, 22, 0, 23);
        met(two, 0, 23, -3, -3);
        met(two, 23, 0, -3, -3);
        UphillCarts three = Check.of("bend a 0;bend b 0;bend c 0;");
        met(three, 5, 3, 0, 5);
        met(three, 5, 4, -2, 5);
        met(three, 5, 5, 1, 6);
        met(three, 5, 6, -2, 6);
        met(three, 5, 7, 2, 7);
        met(three, 5, 8, -3, -3);
        met(three, 5, 2, -3, -3);
        Check.says("on one day (HOURS 0 to 47)");
        UphillCarts nine = Check.of(NINE);
        met(nine, 23, 23, 4, 27);
        met(nine, 22, 23, -2, 26);
        met(nine, 15, 23, 8, 23);
        met(nine, 23, 15, 0, 23);
        met(nine, 14, 23, -3, -3);
        met(nine, 23, 14, -3, -3);
        met(nine, 23, 22, -2, 26);
        met(nine, 23, 0, -3, -3);
        Check.says("1: the HOUR 0 .. 47 (BETWEEN: the one ahead of it; -3). NONE: no such ones, fewer than 2 BENDS.");
        for (int hour : beyond(0, 23)) {
            met(two, hour, 0, -1, -1);
            met(two, 0, hour, -1, -1);
        }
        for (int what : beyond(0, 1)) {
            Check.due("meet(0, 0, " + what + ")", two.meet(0, 0, what), -1);
        }
        // How heavy the CART is, and where, is no matter.
        UphillCarts heavy = Check.of("bend a 0;bend b 0;bend c 0;goods g 60 0 0;horse 1 0;");
        heavy.load(0, true);
        met(heavy, 0, 0, 1, 1);
    }

    private static void waits() {
        Check.says("the fewest HOURS 0 .. 23 that the one from above must wait so that they don't meet BETWEEN, nor at a BEND that isn't WIDE");
        UphillCarts two = Check.of("bend a 0;bend b 0;");
        Check.due("between, b, none", two.waits(0, 0), 2);
        Check.due("b, none", two.waits(0, 1), 1);
        Check.due("none", two.waits(0, 2), 0);
        Check.due("a, between, b, none", two.waits(1, 0), 3);
        Check.due("none: it is down ahead of it", two.waits(2, 0), 0);
        Check.due("into the next day", two.waits(23, 23), 2);
        Check.due("into the next day", two.waits(23, 22), 3);
        Check.due("none", two.waits(23, 0), 0);
        UphillCarts lowest = Check.of("bend a 0 wide;bend b 0;");
        Check.due("a is wide", lowest.waits(1, 0), 0);
        Check.due("a is no matter", lowest.waits(0, 0), 2);
        UphillCarts last = Check.of("bend a 0;bend b 0 wide;");
        Check.due("b is wide", last.waits(0, 0), 1);
        Check.due("b is wide", last.waits(0, 1), 0);
        Check.due("a is not", last.waits(1, 0), 2);
        UphillCarts nine = Check.of(NINE);
        Check.due("all of the way", nine.waits(8, 0), 17);
        Check.due("none", nine.waits(9, 0), 0);
        Check.due("all of the way, into the next day", nine.waits(23, 15), 17);
        Check.due("half of it", nine.waits(23, 23), 9);
        Check.due("half of it", nine.waits(0, 0), 9);
        Check.says("WAIT; -2: no HOUR does; NONE likewise.");
        for (int hour : beyond(0, 23)) {
            Check.due("waits(" + hour + ", 0)", two.waits(hour, 0), -1);
            Check.due("waits(0, " + hour + ")", two.waits(0, hour), -1);
        }
        // 17 HOURS are the most that can be in the way, so that some HOUR does always.
        for (int up = 0; up < 24; up++) {
            for (int down = 0; down < 24; down += 5) {
                int wait = nine.waits(up, down);
                Check.due("0 .. 17", wait >= 0 && wait <= 17, true);
            }
        }
    }

    private static void worth() {
        Check.says("cut towards 0 (BELOW, if these are alike)");
        UphillCarts x = Check.of("bend a 10;bend b 12;bend c 9;bend d 0;bend e 99;bend f 13;goods g 1 10 20;goods h 1 20 10;goods i 1 5 5;goods j 1 0 99;");
        int[][] due = {{10, 16, 7, -23, 306, 20}, {20, 14, 23, 53, -276, 10}, {5, 5, 5, 5, 5, 5}, {0, 66, -33, -330, 2937, 99}};
        for (int goods = 0; goods < 4; goods++) {
            for (int bend = 0; bend < 6; bend++) {
                Check.due("worth(" + goods + ", " + bend + ")", x.worth(goods, bend), due[goods][bend]);
            }
        }
        UphillCarts y = Check.of("bend a 10;bend b 60;bend c 0;bend d 10;goods g 1 10 99;");
        for (int bend = 0; bend < 4; bend++) {
            Check.due("alike", y.worth(0, bend), 10);
        }
        UphillCarts down = Check.of("bend a 30;bend b 25;bend c 31;bend d 20;goods g 1 10 15;");
        Check.due("down: 5 times -5 by -10", down.worth(0, 1), 12);
        Check.due("down: 5 times 1 by -10", down.worth(0, 2), 10);
        Check.due("down: the last", down.worth(0, 3), 15);
        Check.due("one bend", Check.of("bend a 10;goods g 1 8 9;").worth(0, 0), 8);
        Check.says("WORTH; NONE: no such ones.");
        for (int goods : beyond(0, 3)) {
            Check.due("worth(" + goods + ", 0)", x.worth(goods, 0), -1);
        }
        for (int bend : beyond(0, 5)) {
            Check.due("worth(0, " + bend + ")", x.worth(0, bend), -1);
        }
        Check.due("no bends", Check.of("goods g 1 8 9;").worth(0, 0), -1);
    }

    private static int tollOf(String goods) {
        return Check.of("bend a 0;bend b 0;" + goods + "law pull 10;").toll(0);
    }

    private static void toll() {
        Check.says("the least price 0 .. 200 for a pound by which no LOAD whose WAY comes UP brings more than 0");
        Check.due("no goods", tollOf(""), 0);
        Check.due("nothing to be had", tollOf("goods g 5 7 7;"), 0);
        Check.due("a loss", tollOf("goods g 5 7 6;"), 0);
        Check.due("1 for 10", tollOf("goods g 10 6 7;"), 1);
        Check.due("9 for 10", tollOf("goods g 10 6 15;"), 1);
        Check.due("10 for 10: 1 brings 0", tollOf("goods g 10 6 16;"), 1);
        Check.due("11 for 10", tollOf("goods g 10 6 17;"), 2);
        Check.due("99 for 1", tollOf("goods g 1 0 99;"), 99);
        Check.due("99 for 2", tollOf("goods g 2 0 99;"), 50);
        Check.due("too heavy to come up", tollOf("goods g 11 0 99;"), 0);
        Check.due("one is too heavy", tollOf("goods g 11 0 99;goods h 10 0 5;"), 1);
        Check.due("the dearest for a pound counts", tollOf("goods g 5 0 99;goods h 1 0 25;"), 25);
        Check.due("the weight of stones is no matter", Check.of("bend a 0;bend b 50;goods g 1 0 9;bag s 9 1;horse 9 0;stone 20;"
            + "law lift 61*(height>0);law pull 0;").toll(0), 9);
        Check.says("-2: not by 200; NONE: no such HOUR, fewer than 2 BENDS.");
        UphillCarts x = Check.of("bend a 0;bend b 0;goods g 5 0 6;law pull 5*(hour=0);");
        Check.due("from 23", x.toll(23), 2);
        Check.due("from 22", x.toll(22), 0);
        for (int hour : beyond(0, 23)) {
            Check.due("toll(" + hour + ")", x.toll(hour), -1);
        }
    }

    private static void lands() {
        Check.says("one LOST at a BEND is at 10 times its number, HEIGHT high; until it is at 0 or below, each HOUR 7 lower");
        UphillCarts x = Check.of("bend a 0 wind 1;bend b 1;bend c 7;bend d 8;bend e 14;bend f 15;bend g 0 wind 9;bend h 99;");
        Check.due("at 0 already", x.lands(0), 0);
        Check.due("1, -6: below all", x.lands(1), 10);
        Check.due("7, 0: by 1", x.lands(2), 21);
        Check.due("8, 1 (b, no wind), -6", x.lands(3), 30);
        Check.due("14, 7 (c), 0: by 1", x.lands(4), 41);
        Check.due("15, 8, 1, -6", x.lands(5), 50);
        Check.due("at 0 already", x.lands(6), 60);
        Check.due("99 .. 15, 8, 1, -6", x.lands(7), 70);
        Check.says("the highest of all BENDS that are at most as high as it is then (of like ones the first; 0 without one)");
        x = Check.of("bend a 20 wind 2;bend b 13 wind 9;bend c 13 wind -9;bend d 12 wind 5;bend e 27 wind 3;");
        // 27, 20 is as high as a: 2, 13 is as high as b, the first: 9, 6 and -1: none.
        Check.due("lands(4)", x.lands(4), 51);
        Check.due("20, 13, 6, -1", x.lands(0), 9);
        Check.due("13, 6, -1", x.lands(2), 20);
        Check.due("12, 5, -2", x.lands(3), 30);
        x = Check.of("bend a 99 wind -9;bend b 0 wind -9;");
        // 99, 92 .. 1: fourteen times by b, then -6.
        Check.due("below 0", x.lands(0), -126);
        x = Check.of("bend a 98 wind -9;bend b 0 wind -9;");
        Check.due("91 .. 0: fourteen times, too", x.lands(0), -126);
        Check.says("LANDS; Integer.MIN_VALUE: no such BEND.");
        for (int bend : beyond(0, 1)) {
            Check.due("lands(" + bend + ")", x.lands(bend), MIN_VALUE);
        }
        Check.due("of a new object", new UphillCarts().lands(0), MIN_VALUE);
        Check.due("one bend", Check.of("bend a 7 wind 5;").lands(0), 0);
    }

    private static void see() {
        Check.says("SEEN (low, high -9999 .. 9999, high not below low): its number; NONE: no such ones, or there are 24.");
        UphillCarts x = Check.of("bend a 0;bend b 0;");
        for (int bend : beyond(0, 1)) {
            Check.refused(x, "see(" + bend + ", 0, 0, 0)", () -> x.see(bend, 0, 0, 0), -1);
        }
        for (int hour : beyond(0, 23)) {
            Check.due("see(0, " + hour + ", 0, 0)", x.see(0, hour, 0, 0), -1);
        }
        UphillCarts y = Check.of("bend a 0;bend b 0;");
        int[][] none = {{-10000, 0}, {0, 10000}, {1, 0}, {9999, 9998}, {-9999, -10000}, {MIN_VALUE, 0}, {0, MAX_VALUE}, {MIN_VALUE, MAX_VALUE},
            {10000, 10000}, {-10000, -10000}, {MAX_VALUE, MAX_VALUE}, {0, MIN_VALUE}};
        for (int[] range : none) {
            Check.refused(y, "see(0, 0, " + range[0] + ", " + range[1] + ")", () -> y.see(0, 0, range[0], range[1]), -1);
        }
        int[][] some = {{-9999, 9999}, {0, 0}, {-9999, -9999}, {9999, 9999}, {-1, 0}};
        UphillCarts z = Check.of("bend a 0;bend b 0;");
        for (int i = 0; i < 5; i++) {
            Check.due("see(1, 23, " + some[i][0] + ", " + some[i][1] + ")", z.see(1, 23, some[i][0], some[i][1]), i);
        }
        for (int i = 5; i < 24; i++) {
            Check.due("see", i % 2 == 0 ? z.see(0, 0, 0, 0) : z.strike(0), i);
        }
        Check.due("24", z.count(7), 24);
        Check.refused(z, "a 25th", () -> z.see(0, 0, 0, 0), -1);
        Check.refused(z, "a 25th, a strike", () -> z.strike(0), -1);
        Check.due("without bends", new UphillCarts().see(0, 0, 0, 0), -1);
        Check.due("one bend", Check.of("bend a 0;").see(0, 0, 0, 0), 0);
        Check.says("at a BEND and an HOUR NET was low .. high");
        UphillCarts w = Check.of("bend a 0;stone 1;");
        w.see(0, 0, 3, 5);
        Check.due("3, 4, 5", w.fits(), 3);
        Check.due("3", w.fit(0, 2), 3);
        Check.due("5", w.fit(2, 2), 5);
        w.see(0, 0, 5, 5);
        Check.due("5 alone", w.fits(), 1);
        w.see(0, 0, 6, 6);
        Check.due("none", w.fits(), 0);
        UphillCarts v = Check.of("bend a 0;bend b 1;bag s 1 3;law lift hour*(1+height);");
        v.see(0, 23, -46, -46);
        Check.due("two bags, no stones", v.fits(), 1);
        v.see(1, 22, -88, -88);
        Check.due("still", v.fits(), 1);
        Check.due("two", v.fit(0, 1), 2);
        v.see(1, 23, -88, -88);
        Check.due("at 23 it would be -92", v.fits(), 0);
    }

    private static void strike() {
        Check.says("A STRIKE: its number; NONE: no such one SEEN, or there are 24.");
        UphillCarts x = Check.of("bend a 0;stone 1;");
        for (int seen : beyond(0, -1)) {
            Check.refused(x, "nothing seen, strike(" + seen + ")", () -> x.strike(seen), -1);
        }
        Check.refused(x, "nothing seen, strike(0)", () -> x.strike(0), -1);
        Check.due("see", x.see(0, 0, 4, 4), 0);
        Check.refused(x, "strike(1)", () -> x.strike(1), -1);
        Check.refused(x, "strike(-1)", () -> x.strike(-1), -1);
        Check.due("one", x.fits(), 1);
        Check.due("strike(0)", x.strike(0), 1);
        Check.due("all", x.fits(), 10);
        Check.says("(a STRIKE may be STRUCK: then it doesn't count; asked from the last one on)");
        for (int i = 2; i < 24; i++) {
            Check.due("a strike of the strike", x.strike(i - 1), i);
            Check.due("counts or not", x.fits(), i % 2 == 0 ? 1 : 10);
        }
        UphillCarts y = Check.of("bend a 0;stone 1;");
        y.see(0, 0, 4, 4);
        y.strike(0);
        y.strike(0);
        Check.due("struck twice", y.fits(), 10);
        y.strike(1);
        Check.due("struck once still", y.fits(), 10);
        y.strike(2);
        Check.due("by none any more", y.fits(), 1);
        y.strike(3);
        Check.due("the strike of 1 is struck, so 1 counts again", y.fits(), 10);
        Check.due("a strike is seen, too", y.count(7), 6);
    }

    private static void known() {
        Check.says("KNOWN by n from now on (-1: by all, also those to come): true; false: no such n.");
        UphillCarts x = Check.of("bend a 0;stone 1;");
        Check.due("known(0) of none", x.known(0), true);
        Check.due("known(-1)", x.known(-1), true);
        for (int n : beyond(-1, 0)) {
            Check.refused(x, "of none, known(" + n + ")", () -> x.known(n));
        }
        x.see(0, 0, 0, 4);
        x.see(0, 0, 3, 9);
        x.strike(0);
        Check.due("all", x.fits(), 7);
        Check.says("the first n that aren't STRUCK by one of these");
        int[] fits = {10, 5, 2, 7};
        for (int n = 0; n <= 3; n++) {
            Check.due("known(" + n + ")", x.known(n), true);
            Check.due("by " + n, x.fits(), fits[n]);
        }
        for (int n : beyond(-1, 3)) {
            Check.refused(x, "known(" + n + ")", () -> x.known(n));
        }
        x.see(0, 0, 3, 3);
        Check.due("by 3 still", x.fits(), 7);
        Check.due("known(-1)", x.known(-1), true);
        Check.due("by 4", x.fits(), 1);
        x.strike(3);
        Check.due("also those to come", x.fits(), 7);
        Check.says("KNOWN by n (all at first)");
        UphillCarts y = Check.of("bend a 0;stone 1;");
        y.see(0, 0, 0, 4);
        Check.due("all", y.fits(), 5);
        y.known(1);
        y.see(0, 0, 0, 0);
        Check.due("the first one", y.fits(), 5);
    }

    private static void fits() {
        Check.says("FITS: LOADS by which all KNOWN ones are so, by GOODS, then BAGS, then stones.");
        UphillCarts x = Check.of("bend a 0;bend b 50;goods g 10 0 0;goods h 20 0 0;bag s 2 3;bag t 4 1;");
        Check.due("all", x.fits(), 4 * 8 * 10);
        Check.due("the first", x.fit(0, 0) + x.fit(0, 1) + x.fit(0, 2), 0);
        Check.due("the tenth", x.fit(9, 2), 9);
        Check.due("one bag", x.fit(10, 1), 1);
        Check.due("no stones", x.fit(10, 2), 0);
        Check.due("three bags", x.fit(39, 1), 3);
        Check.due("one of the second sort", x.fit(40, 1), 4);
        Check.due("seven", x.fit(79, 1), 7);
        Check.due("goods", x.fit(79, 0), 0);
        Check.due("goods", x.fit(80, 0), 1);
        Check.due("no bags", x.fit(80, 1), 0);
        Check.says("The k-th, what 0: GOODS, 1: BAGS, 2: stones. -2: there are no so many; NONE: no such ones.");
        for (int what = 0; what < 3; what++) {
            Check.due("the last, " + what, x.fit(319, what), new int[] {3, 7, 9}[what]);
            Check.due("fit(320, " + what + ")", x.fit(320, what), -2);
            Check.due("fit(MAX_VALUE, " + what + ")", x.fit(MAX_VALUE, what), -2);
            Check.due("fit(-1, " + what + ")", x.fit(-1, what), -1);
            Check.due("fit(MIN_VALUE, " + what + ")", x.fit(MIN_VALUE, what), -1);
        }
        for (int what : beyond(0, 2)) {
            Check.due("fit(0, " + what + ")", x.fit(0, what), -1);
            Check.due("fit(320, " + what + ")", x.fit(320, what), -1);
        }
        // At b a BAG of 2 lifts 10, at a none: what was SEEN at both tells the BAGS.
        x.see(0, 0, 30, 30);
        x.see(1, 0, -10, -10);
        Check.due("40 are lifted: two of 2 and one of 4, by no goods and 6, g and 4, h and 2, both and none", x.fits(), 4);
        int[][] due = {{0, 6, 6}, {1, 6, 4}, {2, 6, 2}, {3, 6, 0}};
        for (int k = 0; k < 4; k++) {
            for (int what = 0; what < 3; what++) {
                Check.due("fit(" + k + ", " + what + ")", x.fit(k, what), due[k][what]);
            }
        }
        Check.due("fit(4, 0)", x.fit(4, 0), -2);
        UphillCarts y = Check.of("bend a 0;stone 1;");
        y.see(0, 0, 7, 7);
        Check.due("seven, asked first", y.fit(0, 2), 7);
        y.known(0);
        Check.due("none, asked first", y.fit(0, 2), 0);
        Check.due("without bends", new UphillCarts().fits(), 10);
        Check.due("without bends", Check.of("goods g 1 0 0;bag s 1 2;").fits(), 60);
    }

    private static void sure() {
        Check.says("Whether GOODS are in all FITS (1), in none (0), in some (2); -2: there are none; NONE: no such ones.");
        UphillCarts x = Check.of("bend a 0;goods g 50 0 0;goods h 60 0 0;stone 1;");
        Check.due("g in some", x.sure(0), 2);
        for (int goods : beyond(0, 1)) {
            Check.due("sure(" + goods + ")", x.sure(goods), -1);
        }
        x.see(0, 0, 50, 59);
        Check.due("g in all", x.sure(0), 1);
        Check.due("h in none", x.sure(1), 0);
        Check.due("ten", x.fits(), 10);
        x.known(0);
        Check.due("g in some", x.sure(0), 2);
        x.known(-1);
        x.see(0, 0, 60, 60);
        Check.due("none", x.sure(0), -2);
        Check.due("none", x.sure(1), -2);
        Check.due("no such ones", x.sure(2), -1);
        Check.due("of a new object", new UphillCarts().sure(0), -1);
    }

    private static void chance() {
        Check.says("(numbers from a seed 0 .. 2147483647 on, one behind another)");
        UphillCarts x = Check.of("bend a 0;bend b 0;bend c 0;goods g 10 0 0;bag s 1 1;thief b 50;law lift 5;law pull 5;");
        x.load(0, true);
        x.tie(0, 1);
        String before = Check.state(x);
        for (int seed : new int[] {0, 1, 2, 65535, 65536, 99999, 100000, 1 << 30, MAX_VALUE - 1, MAX_VALUE}) {
            int ups = 0;
            for (int number : Check.numbers(seed, 10)) {
                ups += number % 100 < 50 ? 0 : 1;
            }
            Check.due("chance(" + seed + ")", x.chance(seed), ups);
        }
        Check.due("all is as it was", Check.state(x).equals(before), true);
        // The CART's own numbers are others, and go on as if nothing had been drawn.
        UphillCarts y = Check.of("bend a 0;bend b 0;bend c 0;bag s 1 1;thief b 50;");
        y.tie(0, 1);
        y.chance(12345);
        y.go(1);
        Check.due("of the seed 0", y.count(12), Check.numbers(0, 1)[0] % 100 < 50 ? 0 : 1);
        Check.says("going on from where it is as if 30 HOURS went by, is UP");
        // Pulled at one HOUR of the day alone: the way to c takes two of them.
        for (int hour = 0; hour < 24; hour++) {
            UphillCarts z = Check.of("bend a 0;bend b 0;bend c 0;goods g 9 0 0;law pull 9*(hour=" + hour + ");");
            z.load(0, true);
            int first = hour == 0 ? 24 : hour;
            Check.due("pulled at " + hour, z.chance(0), first + 24 <= 30 ? 10 : 0);
            z.go(first);
            Check.due("it is at b", z.count(5), 1);
            Check.due("24 hours more", z.chance(0), 10);
            z.go(24);
            Check.due("up", z.count(6), 1);
            Check.due("up already", z.chance(0), 10);
        }
        UphillCarts lost = Check.of("bend a 90;bend b 0;bag s 9 1;");
        lost.tie(0, 1);
        Check.due("lost at the lowest", lost.chance(0), 0);
        Check.due("it is not lost by that", lost.count(6), 0);
        lost.go(1);
        Check.due("lost already", lost.chance(0), 0);
        Check.says("NONE: no such seed, fewer than 2 BENDS.");
        Check.due("chance(-1)", x.chance(-1), -1);
        Check.due("chance(MIN_VALUE)", x.chance(MIN_VALUE), -1);
        Check.due("chance(MIN_VALUE + 1)", x.chance(MIN_VALUE + 1), -1);
    }

    private static void triedOtherwise() {
        Check.says("0 AIR is 9 always");
        UphillCarts x = Check.of("bend a 0;bend b 0;bend c 0;goods g 9 0 0;warm 9 9 8;law pull air;");
        x.load(0, true);
        Check.due("8 at hour 2", x.led(0, 0), 1);
        Check.due("tried(0)", x.tried(0, 0, 0), 2);
        Check.due("8 at hour 2", x.led(0, 0), 1);
        UphillCarts light = Check.of("bend a 0;bend b 0;bag s 1 1;horse 9 8;law lift air;");
        light.tie(0, 1);
        Check.due("5 are held", light.led(0, 1), 1);
        Check.due("9 are not: lost at the lowest", light.tried(0, 0, 0), 0);
        Check.says("1 no WIND");
        x = Check.of("bend a 0;bend b 0 wind 9;bend c 0 wind -9;goods g 1 0 0;law pull 1-gust;");
        x.load(0, true);
        Check.due("wind", x.led(0, 0), 0);
        Check.due("tried(1)", x.tried(1, 0, 0), 2);
        Check.says("2 GOODS i aren't there");
        x = Check.of("bend a 0;bend b 0;goods g 5 0 0;goods h 6 0 0;bag s 1 1;bag t 1 2;law pull 5;law lift 0;");
        x.load(0, true);
        x.load(1, true);
        Check.due("11 by 5", x.led(0, 0), 0);
        Check.due("without g, 6", x.tried(2, 0, 0), 0);
        Check.due("without h, 5", x.tried(2, 1, 0), 1);
        x.load(0, false);
        x.load(1, false);
        Check.due("which aren't on it", x.tried(2, 0, 0), 1);
        Check.due("the cart keeps its own", x.count(11), 0);
        Check.says("3 no BAGS of sort i");
        x = Check.of("bend a 0;bend b 9;bend c 0;bag s 1 3;bag t 2 3;horse 9 8;law lift height*size/3;");
        x.tie(0, 3);
        x.tie(1, 1);
        Check.due("9 and 6: lost at b", x.led(0, 1) * 10 + x.led(0, 0), 31);
        Check.due("6: up", x.tried(3, 0, 0), 2);
        Check.due("9: lost at b", x.tried(3, 1, 0), 1);
        Check.due("the cart keeps its own", x.count(12), 7);
        x = Check.of("bend a 0;bend b 9;bend c 0;bag r 1 3;bag s 1 3;bag t 1 3;horse 9 14;law lift height/3;");
        for (int sort = 0; sort < 3; sort++) {
            x.tie(0, 1);
            x.tie(1, 1);
            x.tie(2, 1);
            x.tie(sort, 3);
            Check.due("15: lost at b", x.led(0, 0), 1);
            for (int without = 0; without < 3; without++) {
                Check.due("6 without " + sort + ", 12 without another", x.tried(3, without, 0), 2);
            }
            x.stones(0);
        }
        Check.says("4 no stones");
        x = Check.of("bend a 0;bend b 0;bend c 5;bag s 1 1;horse 9 4;stone 1;law lift height;");
        x.stones(9);
        Check.due("9 by 9 and 7", x.led(0, 0), 1);
        Check.due("tried(4)", x.tried(4, 0, 0), 2);
        x.tie(0, 1);
        Check.due("up", x.led(0, 0), 2);
        Check.due("5 by 4: lost at c, the last", x.tried(4, 0, 0), 2);
        Check.due("the cart keeps its own", x.count(10), 9);
        x = Check.of("bend a 0;bend b 0;goods g 9 0 0;stone 1;law pull 9;");
        x.load(0, true);
        x.stones(1);
        Check.due("10 by 9", x.led(0, 0), 0);
        Check.due("none at all", x.tried(4, 0, 0), 1);
        Check.says("5 STRONG is twice as much: to which BEND it comes");
        x = Check.of("bend a 0;bend b 10;bend c 30;stone 10;horse 12 1;");
        x.stones(1);
        Check.due("10 by 7", x.led(0, 0), 0);
        Check.due("10 by 19, 10 by 14", x.tried(5, 0, 0), 2);
        x.stones(2);
        Check.due("20 by 19", x.tried(5, 0, 0), 0);
        x = Check.of("bend a 0;bend b 0;bend c 0;stone 20;horse 199 1;law pull size/2;");
        x.stones(9);
        Check.due("180 by 99", x.led(0, 0), 0);
        Check.due("180 by 199", x.tried(5, 0, 0), 2);
        x = Check.of("bend a 0;bend b 0;bag s 4 1;horse 9 4;law lift size;");
        x.tie(0, 1);
        Check.due("size of a bag stays", x.tried(5, 0, 0), 1);
        x = Check.of("bend a 0;bend b 0;goods g 9 0 0;goods h 1 0 0;bag s 1 1;horse 9 1;");
        x.load(0, true);
        Check.due("strong as it is otherwise", x.tried(0, 0, 0) + x.tried(1, 0, 0) + x.tried(2, 1, 0) + x.tried(3, 0, 0) + x.tried(4, 0, 0), 5);
        x.load(1, true);
        Check.due("and not more", x.tried(0, 0, 0) + x.tried(1, 0, 0) + x.tried(3, 0, 0) + x.tried(4, 0, 0), 0);
        x = Check.of("bend a 0;bend b 0;goods g 10 0 0;law pull air;");
        x.load(0, true);
        Check.due("10 by 9", x.tried(0, 0, 0), 0);
    }

    private static void triedNoSuch() {
        Check.says("TRIED; NONE: no such ones (i 0 of 0, 1, 4, 5), fewer than 2 BENDS.");
        UphillCarts x = Check.of("bend a 0;bend b 0;goods g 5 0 0;goods h 6 0 0;bag s 1 1;");
        for (int what : beyond(0, 5)) {
            Check.due("tried(" + what + ", 0, 0)", x.tried(what, 0, 0), -1);
        }
        for (int what = 0; what <= 5; what++) {
            Check.due("tried(" + what + ", 0, 23)", x.tried(what, 0, 23), 1);
            for (int hour : beyond(0, 23)) {
                Check.due("tried(" + what + ", 0, " + hour + ")", x.tried(what, 0, hour), -1);
            }
            int most = what == 2 ? 1 : 0;
            for (int i : beyond(0, most)) {
                Check.due("tried(" + what + ", " + i + ", 0)", x.tried(what, i, 0), -1);
            }
        }
        Check.due("tried(2, 1, 0)", x.tried(2, 1, 0), 1);
        x = Check.of("bend a 0;bend b 0;");
        Check.due("no goods", x.tried(2, 0, 0), -1);
        Check.due("no bags", x.tried(3, 0, 0), -1);
        Check.due("no stones", x.tried(4, 0, 0), 1);
        // Wherever the CART is, it is a WAY from the lowest BEND.
        x.go(1);
        Check.due("up", x.tried(0, 0, 0), 1);
    }
}
