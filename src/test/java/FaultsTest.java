/** Promises 2 to 4: the TAPE, the TEXT and its FAULTS. */
public final class FaultsTest {
    public static void main(String[] args) {
        tape();
        whatStays();
        tokens();
        tooMuch();
        toldAlready();
        notAhead();
        expressions();
        Check.end("FaultsTest");
    }

    private static String repeat(String part, int n) {
        StringBuilder b = new StringBuilder();
        for (int i = 0; i < n; i++) {
            b.append(part);
        }
        return b.toString();
    }

    private static void tape() {
        UphillCarts x = new UphillCarts();
        Check.due("text(0) of an empty tape", x.text(0), 0);
        Check.due("text(1) of an empty tape", x.text(1), -2);
        for (int i = 1; i <= 35; i++) {
            Check.due("feed", x.feed(0x20202020, 0x20202020, 0x20202020, 0x20202020, 0x0a0a0a0a), 20 * i);
        }
        Check.due("a 36th feed", x.feed(0, 0, 0, 0, 0), -1);
        Check.due("text(701)", x.text(701), -2);
        Check.due("text(-1)", x.text(-1), -2);
        Check.due("text(700), blanks alone", x.text(700), 0);
        Check.due("feed behind a text", x.feed(-1, -1, -1, -1, -1), 20);
        Check.due("bytes of 255", x.text(20), -1);
        Check.due("fault", x.fault(0), 1);
        Check.due("place", x.fault(1), 0);
        // The highest byte of each number comes first.
        x.feed(0x726f7065, 0x20303937, 0x3b202020, 0, 0);
        Check.due("text", x.text(9), 1);
    }

    private static void whatStays() {
        UphillCarts x = new UphillCarts();
        Check.due("fault(0) at first", x.fault(0), 0);
        Check.due("fault(1) at first", x.fault(1), -1);
        Check.due("fault(2)", x.fault(2), -1);
        Check.due("fault(-1)", x.fault(-1), -1);
        Check.tell(x, "bend a 1;bend b 2;bag s 1 3;seed 4;goods g 5 6 7;depot b 4;");
        x.load(0, true);
        x.tie(0, 2);
        x.see(0, 0, 1, 2);
        x.known(0);
        x.keep();
        Check.due("a fault", Check.tell(x, "bend c 1;bend d 2;horse 0 0;"), -1);
        Check.due("its kind", x.fault(0), 2);
        Check.due("its place", x.fault(1), 24);
        Check.due("the goods stay on", x.goods(0, 3), 1);
        Check.due("the bags stay tied", x.count(12), 2);
        Check.due("the bends stay", x.named(0, Check.letters("b")), 1);
        Check.due("no new bend", x.named(0, Check.letters("c")), -1);
        Check.due("seen", x.count(7), 1);
        Check.due("known by", x.count(8), 0);
        Check.due("undone", x.count(9), 2);
        Check.due("image", x.back(), 0);
        Check.due("text(1) leaves the fault", x.text(1), -2);
        Check.due("its kind still", x.fault(0), 2);
        Check.due("its place still", x.fault(1), 24);
        Check.due("a good text", Check.tell(x, "bend c 1;bend d 2;bag t 1 1;depot d 2;"), 4);
        Check.due("no fault", x.fault(0), 0);
        Check.due("no place", x.fault(1), -1);
        Check.due("goods", x.count(11), 0);
        Check.due("bags", x.count(12), 0);
        Check.due("seen", x.count(7), 0);
        Check.due("known by", x.count(8), 0);
        x.see(0, 0, 0, 0);
        Check.due("known by all", x.count(8), 1);
        Check.due("undo", x.undo(), -1);
        Check.due("no image", x.back(), -1);
        Check.due("depots full", x.count(13), 2);
        x.feed(0x20202020, 0x20202020, 0x20202020, 0x20202020, 0x20202020);
        Check.due("text(21) of 20", x.text(21), -2);
        Check.due("the tape stays", x.feed(0, 0, 0, 0, 0), 40);
    }

    private static void tokens() {
        Check.fault("", 0, -1);
        Check.fault(" \n ", 0, -1);
        Check.fault(";", 1, 0);
        Check.fault("bend a 1;;", 1, 9);
        Check.fault("bend a 1", 1, 8);
        Check.fault("bend a 1  \n", 1, 11);
        Check.fault("bend", 1, 4);
        Check.fault("bend;", 1, 4);
        Check.fault("bend 1 a;", 1, 5);
        Check.fault("bend abcdef 1;", 0, -1);
        Check.fault("bend abcdefg 1;", 1, 5);
        Check.fault("bend size 1;", 1, 5);
        Check.fault("bend not 1;", 1, 5);
        Check.fault("bend lifts 1;", 0, -1);
        Check.fault("bend A 1;", 1, 5);
        Check.fault("bend a -1;", 1, 7);
        Check.fault("benda1;", 1, 0);
        Check.fault("bend a1;", 0, -1);
        Check.fault("bend\na\n1;", 0, -1);
        Check.fault("bend\ta 1;", 1, 4);
        Check.fault("bend a 1 wide;", 0, -1);
        Check.fault("bend a 1 wide wind 9;", 0, -1);
        Check.fault("bend a 1 wind 9 wide;", 1, 16);
        Check.fault("bend a 1 wind - 9;", 0, -1);
        Check.fault("bend a 1 wind +9;", 1, 14);
        Check.fault("bend a 1 wind -;", 1, 15);
        Check.fault("bend a 1 wide wide;", 1, 14);
        Check.fault("bend a 1 2;", 1, 9);
        Check.fault("goods g 1 2;", 1, 11);
        Check.fault("goods g 1 2 3 4;", 1, 14);
        Check.fault("bag s 1;", 1, 7);
        Check.fault("depot 1 1;", 1, 6);
        Check.fault("depot bend 1;", 1, 6);
        Check.fault("warm x;", 1, 5);
        Check.fault("warm 1 2 x;", 1, 9);
        Check.fault("horse 1;", 1, 7);
        Check.fault("wide;", 1, 0);
        Check.fault("foot 1;", 1, 0);
        Check.fault("rope 1;#", 1, 7);
        Check.fault("law;", 1, 3);
        Check.fault("law size 1;", 1, 4);
        Check.fault("law lift;", 1, 8);
        Check.fault("law lift", 1, 8);
    }

    private static void tooMuch() {
        Check.fault("bend a 99;", 0, -1);
        Check.fault("bend a 0099;", 0, -1);
        Check.fault("bend a 100;", 2, 7);
        Check.fault("bend a 99999999999999999999999;", 2, 7);
        Check.fault("bend a 4294967296;", 2, 7);
        Check.fault("bend a 1 wind 10;", 2, 14);
        Check.fault("bend a 1 wind -10;", 2, 15);
        Check.fault("goods g 60 99 99;", 0, -1);
        Check.fault("goods g 61 0 0;", 2, 8);
        Check.fault("goods g 0 0 0;", 2, 8);
        Check.fault("goods g 1 100 0;", 2, 10);
        Check.fault("goods g 1 0 100;", 2, 12);
        Check.fault("bag s 9 3;", 0, -1);
        Check.fault("bag s 0 3;", 2, 6);
        Check.fault("bag s 10 3;", 2, 6);
        Check.fault("bag s 1 4;", 2, 8);
        Check.fault("bend a 1;depot a 9;thief a 99;", 0, -1);
        Check.fault("bend a 1;depot a 10;", 2, 17);
        Check.fault("bend a 1;thief a 100;", 2, 17);
        Check.fault("horse 199 99;", 0, -1);
        Check.fault("horse 0 9;", 2, 6);
        Check.fault("horse 200 9;", 2, 6);
        Check.fault("horse 1 100;", 2, 8);
        Check.fault("rope 99;", 0, -1);
        Check.fault("rope 100;", 2, 5);
        Check.fault("stone 20;", 0, -1);
        Check.fault("stone 21;", 2, 6);
        Check.fault("stone 0;", 2, 6);
        Check.fault("seed 99999;", 0, -1);
        Check.fault("seed 100000;", 2, 5);
        Check.fault("warm 10;", 2, 5);
        Check.fault("warm" + repeat(" 9", 24) + ";", 0, -1);
        Check.fault("warm" + repeat(" 9", 25) + ";", 2, 53);
        Check.fault("warm" + repeat(" 9", 24) + " a;", 1, 53);
        String bends = "bend a 1;bend b 1;bend c 1;bend d 1;bend e 1;bend f 1;bend g 1;bend h 1;bend i 1;";
        Check.fault(bends, 0, -1);
        Check.fault(bends + "bend j 1;", 2, 81);
        Check.fault(bends + "bend a 100", 2, 81);
        String goods = "goods a 1 1 1;goods b 1 1 1;goods c 1 1 1;goods d 1 1 1;goods e 1 1 1;goods f 1 1 1;";
        Check.fault(goods, 0, -1);
        Check.fault(goods + "goods g 1 1 1;", 2, 84);
        String bags = "bag a 1 1;bag b 1 1;bag c 1 1;";
        Check.fault(bags, 0, -1);
        Check.fault(bags + "bag d 1 1;", 2, 30);
    }

    private static void toldAlready() {
        Check.fault("bend a 1;bend a 100;", 3, 14);
        Check.fault("goods a 1 1 1;goods a 1 1 1;", 3, 20);
        Check.fault("bag a 1 1;bag a 1 1;", 3, 14);
        Check.fault("bend a 1;goods a 1 1 1;bag a 1 1;", 0, -1);
        Check.fault("bend a 1;depot a 0;depot a 0;", 3, 25);
        Check.fault("bend a 1;thief a 0;thief a 0;", 3, 25);
        Check.fault("bend a 1;bend b 1;depot a 1;thief a 1;depot b 1;thief b 1;", 0, -1);
        Check.fault("warm 5;warm 5;", 3, 7);
        Check.fault("horse 1 1;horse;", 3, 10);
        Check.fault("rope 1;rope 1;", 3, 7);
        Check.fault("stone 1;stone 1;", 3, 8);
        Check.fault("seed 0;seed 0;", 3, 7);
        Check.fault("law lift 0;law pull 0;", 0, -1);
        Check.fault("law lift 0;law lift 0;", 3, 15);
        Check.fault("law pull 0;law pull 0;", 3, 15);
        Check.fault("warm 5;horse 1 1;rope 1;stone 1;seed 1;", 0, -1);
    }

    private static void notAhead() {
        Check.fault("depot a 1;bend a 1;", 4, 6);
        Check.fault("bend b 1;thief a 1;", 4, 15);
        Check.fault("goods a 1 1 1;depot a 1;", 4, 20);
        Check.fault("depot abcdefg 1;", 1, 6);
    }

    private static void expressions() {
        Check.fault("law lift 1<2<3;", 1, 12);
        Check.fault("law lift (1<2)<3;", 0, -1);
        Check.fault("law lift 1<2 and 3<4 or 5<6;", 0, -1);
        Check.fault("law lift 1<=2>=3;", 1, 13);
        Check.fault("law lift 1=<2;", 1, 11);
        Check.fault("law lift 1> =2;", 1, 12);
        Check.fault("law lift 1>=2;", 0, -1);
        Check.fault("law lift 1<>2;", 0, -1);
        Check.fault("law lift 1><2;", 1, 11);
        Check.fault("law lift 1+not 2;", 1, 11);
        Check.fault("law lift 1<not 2;", 1, 11);
        Check.fault("law lift 1+(not 2);", 0, -1);
        Check.fault("law lift not not 1 and not 2;", 0, -1);
        Check.fault("law lift not;", 1, 12);
        Check.fault("law lift -1;", 1, 9);
        Check.fault("law lift 1+;", 1, 11);
        Check.fault("law lift 1 2;", 1, 11);
        Check.fault("law lift 1 not 2;", 1, 11);
        Check.fault("law lift (1;", 1, 11);
        Check.fault("law lift (1", 1, 11);
        Check.fault("law lift 1);", 1, 10);
        Check.fault("law lift ();", 1, 10);
        Check.fault("law lift (1)(2);", 1, 12);
        Check.fault("law lift foot;", 1, 9);
        Check.fault("law lift wide;", 1, 9);
        Check.fault("law lift lift;", 1, 9);
        Check.fault("law lift 9999;", 0, -1);
        Check.fault("law lift 10000;", 2, 9);
        Check.fault("law lift ((((((((1))))))));", 0, -1);
        Check.fault("law lift (((((((((1)))))))));", 2, 17);
        Check.fault("law lift ((((((((1))))))))+((((((((1))))))));", 0, -1);
        // 32 numbers and 31 signs, and then the 64th and the 65th knot.
        String knots63 = "law lift 1" + repeat("+1", 31);
        Check.fault(knots63 + ";", 0, -1);
        Check.fault(knots63 + "+1;", 2, 73);
        Check.fault("law lift " + repeat("not ", 63) + "1;", 0, -1);
        Check.fault("law lift " + repeat("not ", 64) + "1;", 2, 265);
        Check.fault(knots63 + ";law pull 1;", 0, -1);
        Check.fault(knots63 + ";law pull not 1;", 2, 86);
        Check.fault(knots63 + ";law pull 1 or 1;", 2, 84);
        Check.fault(knots63 + ";law pull 1 1;", 1, 84);
        Check.due("knots", Check.of(knots63 + ";law pull (1);").count(3), 64);
        Check.due("knots", Check.of("law lift size+height*air-hour/gust<=slope and not(1 or 2);").count(3), 16);
    }
}
