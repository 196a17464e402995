/** "==== 1" and promises 1 to 5: each sentence that names a boundary case has its own answers here, under its own words. */
public final class TextBoundsTest {
    private static final String[] LANGUAGE = {"bend", "wide", "wind", "goods", "bag", "depot", "thief", "warm", "horse", "rope", "stone",
        "seed", "law", "lift", "pull", "or", "and", "not", "size", "height", "air", "hour", "gust", "slope"};
    private static final String NINE = "bend a 1;bend b 1;bend c 1;bend d 1;bend e 1;bend f 1;bend g 1;bend h 1;bend i 1;";
    private static final String SIX = "goods a 1 1 1;goods b 1 1 1;goods c 1 1 1;goods d 1 1 1;goods e 1 1 1;goods f 1 1 1;";
    private static final String THREE = "bag a 1 1;bag b 1 1;bag c 1 1;";
    private static final String[] WHOLE = {"bend a 1 wide wind - 3 ;", "bend a 1 wind 3 ;", "goods g 1 2 3 ;", "bag s 1 2 ;", "warm 1 2 3 ;",
        "horse 1 2 ;", "rope 1 ;", "stone 1 ;", "seed 1 ;", "law lift not ( size + 1 ) * 2 <= 3 and air or 4 ;", "law pull 1 ;"};

    public static void main(String[] args) {
        lines();
        words();
        wordsOfTheLanguage();
        blanks();
        numbers();
        withoutTelling();
        howMany();
        kindsOfNames();
        firstAlongTheText();
        ofOnePlaceTheLeast();
        moreMustCome();
        signs();
        open();
        knots();
        toldAlready();
        notToldAhead();
        newObject();
        feeding();
        texts();
        textsInPlaceOfAnother();
        textsWithAFault();
        textsOfNoSuchLength();
        faults();
        named();
        Check.end("TextBoundsTest");
    }

    private static void lines() {
        Check.says("A TEXT: { LINE ';' }.");
        Check.good("");
        Check.good(" ");
        Check.good("rope 1;");
        Check.good("rope 1;stone 1;");
        Check.faultAtMark("^;", 1);
        Check.faultAtMark("rope 1;^;", 1);
        Check.faultAtMark("rope 1 ^stone 1;", 1);
        Check.due("one line", Check.tell(new UphillCarts(), "rope 1;"), 1);
        Check.due("twelve lines", Check.tell(new UphillCarts(), NINE + "rope 1;stone 1;seed 1;"), 12);
        Check.due("none", Check.tell(new UphillCarts(), "\n \n"), 0);
    }

    private static void words() {
        Check.says("W: one of 1 .. 6 letters");
        Check.good("bend z 1;goods z 1 1 1;bag z 1 1;depot z 1;thief z 1;");
        Check.good("bend zyxwvu 1;goods zyxwvu 1 1 1;bag zyxwvu 1 1;depot zyxwvu 1;thief zyxwvu 1;");
        Check.says("a word of more than 6 letters that is none of the language, too");
        Check.faultAtMark("bend ^zyxwvut 1;", 1);
        Check.faultAtMark("goods ^zyxwvut 1 1 1;", 1);
        Check.faultAtMark("bag ^zyxwvut 1 1;", 1);
        Check.faultAtMark("bend zyxwvu 1;depot ^zyxwvut 1;", 1);
        Check.faultAtMark("bend zyxwvu 1;thief ^zyxwvut 1;", 1);
        Check.faultAtMark("^heights 1;", 1);
        Check.faultAtMark("law lift ^heights;", 1);
        Check.faultAtMark("bend ^" + "z".repeat(300) + " 1;", 1);
        Check.says("Words: small letters in a row");
        Check.faultAtMark("bend ^A 1;", 1);
        Check.faultAtMark("bend a^A 1;", 1);
        Check.faultAtMark("bend a^_b 1;", 1);
        Check.good("bend a1;");
        Check.faultAtMark("bend a1^b;", 1);
        Check.faultAtMark("bend ^1a;", 1);
        Check.faultAtMark("^benda 1;", 1);
    }

    private static void wordsOfTheLanguage() {
        Check.says("none of those of the language");
        for (String word : LANGUAGE) {
            Check.faultAtMark("bend ^" + word + " 1;", 1);
            Check.faultAtMark("goods ^" + word + " 1 1 1;", 1);
            Check.faultAtMark("bag ^" + word + " 1 1;", 1);
            Check.faultAtMark("depot ^" + word + " 1;", 1);
            Check.faultAtMark("thief ^" + word + " 1;", 1);
            Check.good("bend " + word.substring(1) + "x 1;");
        }
    }

    private static void blanks() {
        Check.says("Blanks 10, 32.");
        for (int b = 0; b < 256; b++) {
            char c = (char) b;
            boolean blank = b == 10 || b == 32;
            Check.fault(String.valueOf(c), blank ? 0 : 1, blank ? -1 : 0);
            int behind = blank || c >= '0' && c <= '9' ? -1 : c == ';' ? 7 : 6;
            Check.fault("rope 1" + c + ";", behind < 0 ? 0 : 1, behind);
        }
        Check.good("\n bend\n\na \n1\nwide wind-\n1 ; \n");
        Check.good("bend a 1wide wind-1;");
    }

    /** A number from low to high stands at the sign #. */
    private static void range(String text, int low, int high) {
        Check.good(text.replace("#", "" + low));
        Check.good(text.replace("#", "" + high));
        Check.good(text.replace("#", "00" + high));
        String[] beyond = {"" + (high + 1), "4294967296", "" + (4294967296L + high), "18446744073709551617", "1" + "0".repeat(200), "9".repeat(40)};
        for (String much : beyond) {
            Check.faultAtMark(text.replace("#", "^" + much), 2);
        }
        if (low > 0) {
            Check.faultAtMark(text.replace("#", "^" + (low - 1)), 2);
            Check.faultAtMark(text.replace("#", "^000"), 2);
        }
        Check.faultAtMark(text.replace("#", "^+" + low), 1);
    }

    private static void numbers() {
        Check.says("HEIGHT 0 .. 99");
        range("bend a #;", 0, 99);
        Check.says("WIND -9 .. 9");
        range("bend a 1 wind #;", 0, 9);
        range("bend a 1 wind -#;", 0, 9);
        range("bend a 1 wide wind - #;", 0, 9);
        Check.due("-9", Check.of("bend a 1 wind -9;").look(0, 2), -9);
        Check.due("9", Check.of("bend a 1 wind 9;").look(0, 2), 9);
        Check.due("-0", Check.of("bend a 1 wind -0;").look(0, 2), 0);
        Check.faultAtMark("bend a 1 wind -^-1;", 1);
        Check.says("WEIGHT 1 .. 60, what it costs BELOW 0 .. 99, fetches ABOVE 0 .. 99");
        range("goods g # 1 1;", 1, 60);
        range("goods g 1 # 1;", 0, 99);
        range("goods g 1 1 #;", 0, 99);
        Check.says("SIZE 1 .. 9, how many there are 0 .. 3");
        range("bag s # 1;", 1, 9);
        range("bag s 1 #;", 0, 3);
        Check.says("depot: stones at a BEND 0 .. 9");
        range("bend a 1;depot a #;", 0, 9);
        Check.says("thief: of a hundred 0 .. 99 at a BEND");
        range("bend a 1;thief a #;", 0, 99);
        Check.says("1 .. 24 of 0 .. 9");
        range("warm #;", 0, 9);
        range("warm 1 #;", 0, 9);
        range("warm" + " 1".repeat(23) + " #;", 0, 9);
        Check.faultAtMark("warm^;", 1);
        Check.says("STRONG 1 .. 199 (40), HOLDS 0 .. 99 (10)");
        range("horse # 1;", 1, 199);
        range("horse 1 #;", 0, 99);
        Check.says("rope: how much one holds 0 .. 99 (10)");
        range("rope #;", 0, 99);
        Check.says("stone: what one weighs 1 .. 20 (5)");
        range("stone #;", 1, 20);
        Check.says("seed: 0 .. 99999 (0)");
        range("seed #;", 0, 99999);
        Check.says("N of E 0 .. 9999");
        range("law lift #;", 0, 9999);
        range("law pull 1 + #;", 0, 9999);
    }

    private static void withoutTelling() {
        UphillCarts x = Check.of("bend a 0;bend b 0;bag s 1 3;warm 1 2;law lift air;");
        Check.says("WIND -9 .. 9 (0 without)");
        Check.due("wind", x.look(1, 2), 0);
        Check.says("WIDE or not");
        Check.due("not", x.look(1, 1), 0);
        Check.due("wide", Check.of("bend a 0 wide;").look(0, 1), 1);
        Check.says("AIR of HOURS 0, 1 and so on, 1 .. 24 of 0 .. 9 (5 of those not told)");
        Check.due("hour 0", x.lift(0, 0, 0), 1);
        Check.due("hour 1", x.lift(0, 0, 1), 2);
        Check.due("hour 2", x.lift(0, 0, 2), 5);
        Check.due("hour 23", x.lift(0, 0, 23), 5);
        Check.due("no warm at all", Check.of("bend a 0;bag s 1 1;law lift air;").lift(0, 0, 0), 5);
        Check.says("STRONG 1 .. 199 (40), HOLDS 0 .. 99 (10)");
        Check.due("strong", x.pull(1, 0), 40);
        x = Check.of("bend a 0;bend b 0;bag s 1 2;law lift 10;");
        x.tie(0, 1);
        Check.due("10 are held", x.led(0, 1), 1);
        x = Check.of("bend a 0;bend b 0;bag s 1 2;law lift 11;");
        x.tie(0, 1);
        Check.due("11 are not", x.led(0, 1), 3);
        Check.says("rope: how much one holds 0 .. 99 (10)");
        x = Check.of("bend a 0;bend b 0;bag s 1 2;law lift 20;");
        x.tie(0, 1);
        Check.due("10 more", x.ropes(0), 3);
        x = Check.of("bend a 0;bend b 0;bag s 1 2;law lift 21;");
        x.tie(0, 1);
        Check.due("no more", x.ropes(0), -2);
        Check.says("stone: what one weighs 1 .. 20 (5)");
        x.tie(0, 0);
        x.stones(9);
        Check.due("nine", x.net(0, 0), 45);
        Check.says("seed: 0 .. 99999 (0)");
        for (int thief = 1; thief <= 99; thief += 7) {
            String road = "bend a 0;bend b 0;bend c 0;bag s 1 1;thief b " + thief + ";";
            x = Check.of(road);
            x.tie(0, 1);
            x.go(1);
            Check.due("drawn from 0, " + thief, x.count(12), Check.numbers(0, 1)[0] % 100 < thief ? 0 : 1);
            x = Check.of(road + "seed 99999;");
            x.tie(0, 1);
            x.go(1);
            Check.due("drawn from 99999, " + thief, x.count(12), Check.numbers(99999, 1)[0] % 100 < thief ? 0 : 1);
        }
    }

    private static void howMany() {
        Check.says("BENDS, at most 9");
        Check.due("nine", Check.of(NINE).count(0), 9);
        Check.faultAtMark(NINE + "^bend j 1;", 2);
        Check.faultAtMark(NINE + "rope 1;^bend j 1;", 2);
        Check.says("GOODS, at most 6");
        Check.due("six", Check.of(SIX).count(1), 6);
        Check.faultAtMark(SIX + "^goods g 1 1 1;", 2);
        Check.says("BAGS, at most 3 sorts");
        Check.due("three", Check.of(THREE).count(2), 3);
        Check.faultAtMark(THREE + "^bag d 1 1;", 2);
        Check.due("all of them", Check.of(NINE + SIX + THREE).count(1), 6);
        Check.says("a tenth bend and so on (at the word of the LINE; a 25th HOUR at it)");
        Check.faultAtMark(NINE + "^bend a 100", 2);
        Check.faultAtMark(NINE + "^bend", 2);
        Check.faultAtMark(SIX + "^goods a", 2);
        Check.faultAtMark(THREE + "^bag;", 2);
        Check.good("warm" + " 1".repeat(24) + ";");
        Check.faultAtMark("warm" + " 1".repeat(24) + " ^1;", 2);
        Check.faultAtMark("warm" + " 1".repeat(24) + " ^10;", 2);
        Check.faultAtMark("warm" + " 1".repeat(24) + " ^x;", 1);
        Check.faultAtMark("warm" + " 1".repeat(24) + "^", 1);
        Check.says("All numbered as they come");
        UphillCarts x = Check.of("goods q 2 0 0;bend z 3;bag p 4 1;bend y 5;goods r 6 0 0;bag o 7 1;");
        Check.due("the first bend", x.look(0, 0), 3);
        Check.due("the second bend", x.look(1, 0), 5);
        Check.due("the first goods", x.goods(0, 0), 2);
        Check.due("the second goods", x.goods(1, 0), 6);
        Check.due("the first sort", x.bag(0, 0), 4);
        Check.due("the second sort", x.bag(1, 0), 7);
    }

    private static void kindsOfNames() {
        Check.says("BENDS, GOODS, BAGS have names of their kind.");
        UphillCarts x = Check.of("bend b 1;bend a 1;goods a 1 1 1;bag c 1 1;bag d 1 1;bag a 1 1;");
        Check.due("bend", x.named(0, Check.letters("a")), 1);
        Check.due("goods", x.named(1, Check.letters("a")), 0);
        Check.due("bag", x.named(2, Check.letters("a")), 2);
        Check.faultAtMark("bend b 1;goods a 1 1 1;depot ^a 1;", 4);
        Check.faultAtMark("bend b 1;bag a 1 1;thief ^a 1;", 4);
    }

    private static void firstAlongTheText() {
        Check.says("FAULTS, the first along the text");
        Check.faultAtMark("bend a ^100;bend a 1;#", 2);
        Check.faultAtMark("bend a 1;bend ^a 100;#", 3);
        Check.faultAtMark("depot ^a 10;bend a 100;", 4);
        Check.faultAtMark("rope ^x;rope 100;", 1);
        Check.faultAtMark("rope 1;^rope 100;", 3);
        Check.faultAtMark("warm 1;^warm 10;", 3);
        Check.faultAtMark("law lift 1;law ^lift 10000;", 3);
        Check.faultAtMark("law lift 1 + ^10000 + + ;", 2);
        Check.faultAtMark("law lift 1 + ^+ 10000;", 1);
        Check.faultAtMark("horse ^0 100;", 2);
        Check.faultAtMark("horse 1 ^100 1;", 2);
        Check.faultAtMark("goods g 1 ^100 100;", 2);
    }

    private static void ofOnePlaceTheLeast() {
        Check.says("of one place the least");
        // 1 ahead of 2: too much and also where it can't stand.
        Check.faultAtMark("bend ^100 1;", 1);
        Check.faultAtMark("rope 1 ^100;", 1);
        Check.faultAtMark(NINE + "rope ^bend j 1;", 1);
        Check.faultAtMark(SIX + "rope 1 ^goods;", 1);
        Check.faultAtMark("law lift 1 ^10000;", 1);
        Check.faultAtMark("law lift ((((((((1 ^(", 1);
        Check.faultAtMark("law lift 1" + "+1".repeat(31) + "+^+1;", 1);
        Check.faultAtMark("law lift 1" + "+1".repeat(31) + ";law pull 1 ^1;", 1);
        Check.faultAtMark("law lift 1" + "+1".repeat(31) + ";law pull 1 ^not 1;", 1);
        Check.faultAtMark("law lift 1" + "+1".repeat(30) + "<1;law pull 1 ^size;", 1);
        Check.faultAtMark("law lift not 1" + "+1".repeat(30) + "<1 ^<1;", 1);
        // 1 ahead of 3 and of 4: a word told already, or not told, that can't stand there.
        Check.faultAtMark("rope 1;stone ^rope;", 1);
        Check.faultAtMark("law lift 1;law pull ^lift;", 1);
        Check.faultAtMark("depot ^abcdefg 1;", 1);
        Check.faultAtMark("thief ^1 1;", 1);
        Check.faultAtMark("bend a 1;bend b ^a;", 1);
    }

    private static void moreMustCome() {
        Check.says("or can't stand there (the length, if more must come)");
        for (String line : WHOLE) {
            Check.good(line);
            Check.good(line + "\n");
            for (int end = line.lastIndexOf(' '); end > 0; end = line.lastIndexOf(' ', end - 1)) {
                Check.fault(line.substring(0, end), 1, end);
                Check.fault(line.substring(0, end) + " \n ", 1, end + 3);
            }
        }
        for (String line : new String[] {"depot a 1 ;", "thief a 1 ;"}) {
            for (int end = line.lastIndexOf(' '); end > 0; end = line.lastIndexOf(' ', end - 1)) {
                Check.fault("bend a 1;" + line.substring(0, end), 1, 9 + end);
            }
        }
        // The length is that of the text, not of the tape.
        UphillCarts x = new UphillCarts();
        Check.feed(x, "bend abc 1;bend b 1;");
        Check.due("text(9)", x.text(9), -1);
        Check.due("fault", x.fault(0), 1);
        Check.due("place", x.fault(1), 9);
        Check.feed(x, "rope 123;");
        Check.due("a number that is cut off", x.text(7), -1);
        Check.due("place", x.fault(1), 7);
        Check.feed(x, "rope 1;bend");
        Check.due("a word that is cut off", x.text(10), -1);
        Check.due("place", x.fault(1), 7);
        Check.feed(x, "bend ab 1;");
        Check.due("a name that is cut off", x.text(6), -1);
        Check.due("place", x.fault(1), 6);
        Check.feed(x, "law lift 1<=2;");
        Check.due("a sign that is cut off", x.text(11), -1);
        Check.due("place", x.fault(1), 11);
        for (String end : new String[] {"bend", "rope 1", "law lift 1<", "law lift 1>", "bend abcdef", "warm 1 2", "bend a 1 wind -"}) {
            Check.fault(" ".repeat(700 - end.length()) + end, 1, 700);
        }
    }

    private static void signs() {
        Check.says("A = (or > behind <) right behind < or > belongs to it.");
        Check.good("law lift 1<=2;");
        Check.good("law lift 1>=2;");
        Check.good("law lift 1<>2;");
        Check.faultAtMark("law lift 1< ^=2;", 1);
        Check.faultAtMark("law lift 1> ^=2;", 1);
        Check.faultAtMark("law lift 1< ^>2;", 1);
        Check.faultAtMark("law lift 1<\n^>2;", 1);
        Check.faultAtMark("law lift 1>^>2;", 1);
        Check.faultAtMark("law lift 1>^<2;", 1);
        Check.faultAtMark("law lift 1<^<2;", 1);
        Check.faultAtMark("law lift 1=^=2;", 1);
        Check.faultAtMark("law lift 1=^<2;", 1);
        Check.faultAtMark("law lift 1<>^=2;", 1);
        Check.faultAtMark("law lift 1<=^>2;", 1);
        Check.faultAtMark("law lift 1<^", 1);
        Check.says("C: S [ ( < | <= | = | <> | >= | > ) S ].");
        Check.faultAtMark("law lift 1<2^<3;", 1);
        Check.faultAtMark("law lift 1=2+1^=3;", 1);
        Check.faultAtMark("law lift not 1=2*1^<>3;", 1);
        Check.faultAtMark("law lift 1 and 1=2^>=3;", 1);
        Check.good("law lift 1=2 and 3=4 or 5=6;");
        Check.good("law lift (1=2)=(3=4);");
        Check.says("B: not B | C.");
        Check.good("law lift not not not 1;");
        Check.good("law lift 1 and not 1 or not 1;");
        Check.faultAtMark("law lift 1+^not 1;", 1);
        Check.faultAtMark("law lift 1*^not 1;", 1);
        Check.faultAtMark("law lift 1=^not 1;", 1);
        Check.faultAtMark("law lift not ^and 1;", 1);
    }

    private static void open() {
        Check.says("a ninth '(' open");
        Check.good("law lift " + "(".repeat(8) + "1" + ")".repeat(8) + ";");
        Check.faultAtMark("law lift " + "(".repeat(8) + "^(1" + ")".repeat(9) + ";", 2);
        Check.good("law lift " + "(".repeat(8) + "1)+(1)" + ")".repeat(7) + ";");
        Check.good("law lift (1)" + "+(1)".repeat(12) + ";");
        Check.good("law lift " + "(".repeat(8) + "1" + ")".repeat(8) + ";law pull " + "(".repeat(8) + "1" + ")".repeat(8) + ";");
        Check.faultAtMark("law lift " + "1+(".repeat(8) + "1+^(1", 2);
        Check.faultAtMark("law lift " + "(".repeat(8) + "1)+(1+^(1", 2);
        Check.says("P: N | NAME | '(' E ')'");
        Check.faultAtMark("law lift (1^;", 1);
        Check.faultAtMark("law lift ((1)^;", 1);
        Check.faultAtMark("law lift 1^);", 1);
        Check.faultAtMark("law lift (1)^);", 1);
        Check.faultAtMark("law lift (^);", 1);
        Check.faultAtMark("law lift ^-1;", 1);
    }

    private static void knots() {
        Check.says("a 65th KNOT of all E (N, NAMES, signs, not, and, or: one each)");
        // 63 KNOTS: what comes behind them is the 64th, then the 65th.
        String most = "law lift 1" + "+1".repeat(31);
        Check.due("63", Check.of(most + ";").count(3), 63);
        Check.due("64", Check.of(most + ";law pull 1;").count(3), 64);
        Check.due("64", Check.of(most + ";law pull slope;").count(3), 64);
        for (String two : new String[] {"+^1", "-^1", "*^1", "/^1", "<^1", "<=^1", "=^1", "<>^1", ">=^1", ">^1", " and ^1", " or ^1", "+^size",
            " and ^not 1", "+(^1)"}) {
            Check.faultAtMark(most + two + ";", 2);
        }
        String full = "law lift not 1" + "+1".repeat(31);
        Check.due("64", Check.of(full + ";").count(3), 64);
        for (String one : new String[] {"^+1", "^-1", "^*1", "^/1", "^<1", "^<=1", "^=1", "^<>1", "^>=1", "^>1", " ^and 1", " ^or 1"}) {
            Check.faultAtMark(full + one + ";", 2);
        }
        for (String first : new String[] {"^1", "^size", "^not 1", "(^1)"}) {
            Check.faultAtMark(full + ";law pull " + first + ";", 2);
        }
        // As many as can wait for what they join.
        String waiting = "law lift " + "(".repeat(8) + "not ".repeat(63);
        Check.good(waiting + "1" + ")".repeat(8) + ";");
        Check.faultAtMark(waiting + "not ^1" + ")".repeat(8) + ";", 2);
        Check.faultAtMark(waiting + "not ^not 1" + ")".repeat(8) + ";", 2);
        Check.due("brackets are none", Check.of("law lift ((((1))))+(1);").count(3), 3);
        Check.due("none", Check.of("rope 1;").count(3), 0);
        Check.due("each sort", Check.of("law pull not 1+size*2-air/3<=4 and 5<>6 or hour>=7;").count(3), 20);
    }

    private static void toldAlready() {
        Check.says("3 told already: a name of its kind (at W)");
        Check.faultAtMark("bend a 1;bend b 1;bend ^a 1;", 3);
        Check.faultAtMark("goods a 1 1 1;goods ^a 1 1 1;", 3);
        Check.faultAtMark("bag a 1 1;bag ^a 1 1;", 3);
        Check.good("bend abcdef 1;bend abcdeg 1;bend abcde 1;");
        Check.says("a depot, a thief of the same BEND (at W)");
        Check.faultAtMark("bend a 1;depot a 0;depot ^a 1;", 3);
        Check.faultAtMark("bend a 1;thief a 0;thief ^a 1;", 3);
        Check.good("bend a 1;bend b 1;depot b 0;depot a 1;thief b 1;thief a 0;");
        Check.good("bend a 1;depot a 0;bend b 1;depot b 1;");
        Check.faultAtMark(NINE + "depot a 1;depot i 1;depot ^i 1;", 3);
        Check.says("warm, horse, rope, stone, seed (at the word)");
        Check.faultAtMark("warm 1;^warm 1;", 3);
        Check.faultAtMark("horse 1 1;^horse 1 1;", 3);
        Check.faultAtMark("rope 1;^rope 1;", 3);
        Check.faultAtMark("stone 1;^stone 1;", 3);
        Check.faultAtMark("seed 1;^seed 1;", 3);
        Check.faultAtMark("seed 0;rope 10;^seed 0;", 3);
        Check.says("a law of its KIND (at KIND)");
        Check.faultAtMark("law lift 1;law ^lift 1;", 3);
        Check.faultAtMark("law pull 1;law ^pull 1;", 3);
        Check.faultAtMark("law pull 1;law lift 1;law ^pull 1;", 3);
        Check.good("law pull 1;law lift 1;");
    }

    private static void notToldAhead() {
        Check.says("4 a BEND that isn't told ahead (at W)");
        Check.faultAtMark("depot ^a 1;", 4);
        Check.faultAtMark("thief ^a 1;", 4);
        Check.faultAtMark("depot ^a 1;bend a 1;", 4);
        Check.faultAtMark("bend ab 1;thief ^a 1;bend a 1;", 4);
        Check.good("bend a 1;depot a 1;thief a 1;");
        // What an old text told is not told ahead.
        UphillCarts x = Check.of("bend a 1;depot a 1;warm 1;law lift 1;");
        Check.due("text", Check.tell(x, "depot a 1;"), -1);
        Check.due("fault", x.fault(0), 4);
        Check.due("place", x.fault(1), 6);
        Check.due("nor told already", Check.tell(x, "bend a 1;depot a 1;warm 1;law lift 1;"), 4);
    }

    private static void newObject() {
        Check.says("A TEXT without LINES; an empty TAPE.");
        UphillCarts x = new UphillCarts();
        Check.due("text(1)", x.text(1), -2);
        Check.due("feed", x.feed(0, 0, 0, 0, 0), 20);
        x = new UphillCarts();
        for (int what = 0; what <= 13; what++) {
            Check.due("count(" + what + ")", x.count(what), 0);
        }
        Check.due("fault(0)", x.fault(0), 0);
        Check.due("fault(1)", x.fault(1), -1);
        Check.due("stones weigh 5: fits", x.fits(), 10);
        Check.due("undo", x.undo(), -1);
        Check.due("back", x.back(), -1);
        Check.due("keep", x.keep(), 0);
        Check.due("back", x.back(), 0);
    }

    private static void feeding() {
        Check.says("Twenty bytes come behind the TAPE, four of each number, the highest first: how many it has");
        UphillCarts x = new UphillCarts();
        // "goods gg 12 34 56;  "
        Check.due("feed", x.feed(0x676f6f64, 0x73206767, 0x20313220, 0x33342035, 0x363b2020), 20);
        Check.due("text", x.text(20), 1);
        Check.due("weight", x.goods(0, 0), 12);
        Check.due("below", x.goods(0, 1), 34);
        Check.due("above", x.goods(0, 2), 56);
        x.feed(0xe4ffffff, -1, -1, -1, -1);
        Check.due("bytes above 127", x.text(20), -1);
        Check.due("place", x.fault(1), 0);
        Check.says("NONE, and none come, if it would have more than 700");
        for (int i = 1; i <= 35; i++) {
            Check.due("feed", x.feed(0x20202020, 0x20202020, 0x20202020, 0x20202020, 0x20202020), 20 * i);
        }
        Check.due("a 36th", x.feed(-1, -1, -1, -1, -1), -1);
        Check.due("and again", x.feed(-1, -1, -1, -1, -1), -1);
        Check.due("700 and no more", x.text(701), -2);
        Check.due("720 are not there", x.text(720), -2);
        Check.due("700 blanks", x.text(700), 0);
        Check.due("from the beginning", x.feed(0, 0, 0, 0, 0), 20);
    }

    private static UphillCarts used() {
        UphillCarts x = Check.of("bend a 0;bend b 0;bend c 0;goods g 1 2 3;bag s 1 3;depot b 5;seed 7;");
        x.load(0, true);
        x.tie(0, 2);
        x.stones(4);
        x.at(6);
        x.go(1);
        x.trade(2);
        x.see(0, 0, 1, 2);
        x.see(1, 0, 1, 2);
        x.known(1);
        x.keep();
        return x;
    }

    private static void texts() {
        Check.says("(the CART empty at the lowest BEND, HOUR 0, depots full, nothing SEEN, all KNOWN, no IMAGE, nothing to undo then)");
        UphillCarts x = used();
        Check.due("the same text", Check.tell(x, "bend a 0;bend b 0;bend c 0;goods g 1 2 3;bag s 1 3;depot b 5;seed 7;"), 7);
        int[] all = {3, 1, 1, 0, 0, 0, 0, 0, 0, 0, 0, 0, 0, 5};
        for (int what = 0; what < all.length; what++) {
            Check.due("count(" + what + ")", x.count(what), all[what]);
        }
        Check.due("depot", x.look(1, 3), 5);
        Check.due("undo", x.undo(), -1);
        Check.due("back", x.back(), -1);
        x.see(0, 0, 0, 0);
        x.see(0, 0, 0, 0);
        Check.due("all known", x.count(8), 2);
        Check.due("loading is free again", x.load(0, true), true);
        x = used();
        x.go(1);
        Check.due("up", x.count(6), 1);
        Check.due("text(0): no lines", x.text(0), 0);
        for (int what = 0; what <= 13; what++) {
            Check.due("count(" + what + ")", x.count(what), 0);
        }
        Check.due("named", x.named(0, Check.letters("a")), -1);
        // Lost, and then not.
        x = Check.of("bend a 90;bend b 90;bag s 9 1;");
        x.tie(0, 1);
        Check.due("lost", x.go(1), -2);
        Check.due("told anew", Check.tell(x, "bend a 90;bend b 90;bag s 9 1;"), 3);
        Check.due("not lost", x.count(6), 0);
        Check.due("goes", x.go(1), 1);
        Check.says("(it is empty then)");
        Check.feed(x, "rope 1;stone 1;seed 1;");
        Check.due("the first 7", x.text(7), 1);
        Check.due("the rest is gone", x.text(1), -2);
        Check.due("feed", x.feed(0, 0, 0, 0, 0), 20);
        Check.due("text(0)", x.text(0), 0);
        Check.due("the rest is gone", x.text(1), -2);
        Check.says("The TAPE's first n bytes");
        Check.feed(x, "rope 1;#############");
        Check.due("what is behind them is no matter", x.text(7), 1);
        Check.feed(x, "rope 1;#############");
        Check.due("one more", x.text(8), -1);
        Check.due("place", x.fault(1), 7);
        String longest = "rope 1;" + " ".repeat(686) + "seed 2;";
        Check.due("700 bytes", longest.length(), 700);
        Check.due("all of them", Check.tell(x, longest), 2);
        Check.due("a fault at the last of them", Check.tell(x, longest.substring(0, 699) + "#"), -1);
        Check.due("place", x.fault(1), 699);
    }

    /** Of texts told ahead nothing is left, however many there were. */
    private static void textsInPlaceOfAnother() {
        Check.says("The TAPE's first n bytes (it is empty then) are the TEXT");
        String rich = "bend a 7 wide wind 9;bend b 8 wide wind -9;goods g 9 9 9;bag s 9 3;depot a 9;depot b 9;thief a 99;thief b 99;"
            + "warm 1 1 1;horse 199 99;rope 99;stone 20;seed 7;law lift air+50;law pull air+60;";
        String plain = "bend a 0;bend b 0;bag s 1 1;";
        UphillCarts x = new UphillCarts();
        for (int time = 0; time < 3; time++) {
            Check.due("rich", Check.tell(x, rich), 15);
            Check.due("knots", x.count(3), 6);
        }
        for (int time = 0; time < 3; time++) {
            Check.due("plain", Check.tell(x, plain), 3);
            for (int bend = 0; bend < 2; bend++) {
                for (int what = 0; what <= 5; what++) {
                    Check.due("look(" + bend + ", " + what + ")", x.look(bend, what), 0);
                }
            }
            Check.due("goods", x.count(1), 0);
            Check.due("knots", x.count(3), 0);
            Check.due("lift", x.lift(0, 0, 0), 0);
            Check.due("pull", x.pull(1, 0), 40);
            Check.due("no law", x.law(0, 0, 0, 0), Long.MIN_VALUE);
            Check.due("no law", x.law(1, 0, 1, 0), Long.MIN_VALUE);
            x.stones(1);
            Check.due("a stone", x.net(0, 0), 5);
            Check.due("no more stones", Check.tell(x, "bend a 0;bend b 0;bend c 0;bag s 1 1;thief b 1;law lift air*(hour<3)+11*(hour>2);"), 6);
            x.tie(0, 1);
            Check.due("warm", x.lift(0, 0, 0), 5);
            Check.due("holds 10", x.led(3, 1), 3);
            Check.due("rope 10", x.ropes(3), 7);
            x.go(1);
            Check.due("seed 0", x.count(12), 0);
        }
        for (int time = 0; time < 2; time++) {
            Check.tell(x, "bend a 9 wind 5;bend b 9;bend c 1 wind 7;goods g 1 0 0;bag s 1 3;bag t 1 3;bag u 1 3;depot b 9;depot c 9;");
        }
        Check.due("fewer", Check.tell(x, "bend a 9;bend b 9;bag s 1 1;bag t 1 0;"), 4);
        Check.due("no depot of a third bend", x.count(13), 0);
        Check.due("no wind of a third bend", x.lands(0), 0);
        Check.due("no third sort", x.fits(), 20);
        Check.due("none", x.text(0), 0);
        Check.due("nothing at all", x.count(0) + x.count(1) + x.count(2) + x.count(3) + x.count(13), 0);
        // A text that ends amid an E leaves nothing in the way of the next one.
        for (String cut : new String[] {"law lift ((((((((1+2*3<4", "law lift not (1 and (2", "law lift 1+(2)*", "law pull 1 or not not"}) {
            Check.due("a fault", Check.tell(x, cut), -1);
            Check.due("'" + cut + "', then another", Check.tell(x, "bend a 0;bag s 1 1;law lift ((((((((4))))))))*2+1;"), 3);
            Check.due("9", x.law(0, 0, 0, 0), 9);
            Check.due("knots", x.count(3), 5);
        }
    }

    private static void textsWithAFault() {
        Check.says("NONE with a FAULT, all stays");
        String[] bad = {"bend a 1;bend b 2;goods h 7 7 7;bag t 2 2;depot b 9;horse 1 1;rope 1;stone 9;seed 1;warm 9;law lift 9;law pull 1;#",
            "#", "bend a 100;", "bend a 1;bend a 1;", "depot a 1;"};
        UphillCarts x = used();
        UphillCarts y = used();
        String before = Check.state(x);
        for (String text : bad) {
            Check.due(text, Check.tell(x, text), -1);
            Check.due(text + " leaves all as it is", Check.state(x).equals(before), true);
            Check.due("the tape is empty", x.text(1), -2);
        }
        Check.due("goods", x.goods(0, 0), y.goods(0, 0));
        Check.due("bag", x.bag(0, 1), y.bag(0, 1));
        Check.due("lift", x.lift(0, 1, 0), y.lift(0, 1, 0));
        Check.due("pull", x.pull(1, 0), y.pull(1, 0));
        Check.due("net", x.net(1, 0), y.net(1, 0));
        Check.due("law", x.law(0, 0, 1, 0), Long.MIN_VALUE);
        Check.due("named", x.named(1, Check.letters("h")), -1);
        Check.due("chance", x.chance(5), y.chance(5));
        Check.due("fits", x.fits(), y.fits());
        Check.due("undo", x.undo(), 0);
        Check.due("image", x.back(), 7);
    }

    private static void textsOfNoSuchLength() {
        Check.says("-2, and the TAPE stays: there are not so many, n is below 0");
        UphillCarts x = used();
        String before = Check.state(x);
        Check.feed(x, "rope 1;stone 1;");
        for (int n : new int[] {21, 700, 701, -1, -2, Integer.MAX_VALUE, Integer.MIN_VALUE}) {
            Check.due("text(" + n + ")", x.text(n), -2);
        }
        Check.due("all stays", Check.state(x).equals(before), true);
        Check.due("image", x.back(), 7);
        Check.feed(x, "seed 1;seed ^");
        Check.due("behind what it had", x.text(27), 3);
        Check.due("text(0) of an empty one", x.text(0), 0);
        Check.due("text(1) of an empty one", x.text(1), -2);
    }

    private static void faults() {
        Check.says("Of the latest text() that was not -2, what 0: its FAULT (0), 1: its place (NONE without). NONE for another what.");
        UphillCarts x = new UphillCarts();
        Check.due("text", Check.tell(x, "rope 1;rope 1;"), -1);
        Check.due("fault(0)", x.fault(0), 3);
        Check.due("fault(1)", x.fault(1), 7);
        x.text(5);
        x.text(-1);
        Check.due("fault(0) behind -2", x.fault(0), 3);
        Check.due("fault(1) behind -2", x.fault(1), 7);
        for (int what : new int[] {2, -1, Integer.MAX_VALUE, Integer.MIN_VALUE}) {
            Check.due("fault(" + what + ")", x.fault(what), -1);
        }
        Check.due("text", Check.tell(x, "#"), -1);
        Check.due("fault(0)", x.fault(0), 1);
        Check.due("fault(1)", x.fault(1), 0);
        Check.due("text(0)", x.text(0), 0);
        Check.due("fault(0)", x.fault(0), 0);
        Check.due("fault(1)", x.fault(1), -1);
    }

    private static void named() {
        Check.says("by its letters, 5 bits each (a is 1; the first one highest of six, 0 behind the last one)");
        UphillCarts x = Check.of("bend a 1;bend z 1;bend zzzzzz 1;bend az 1;goods zz 1 1 1;bag aaaaaa 1 1;");
        Check.due("a", x.named(0, 1 << 25), 0);
        Check.due("z", x.named(0, 26 << 25), 1);
        Check.due("zzzzzz", x.named(0, Check.letters("zzzzzz")), 2);
        Check.due("az", x.named(0, 1 << 25 | 26 << 20), 3);
        Check.due("zz", x.named(1, 26 << 25 | 26 << 20), 0);
        Check.due("aaaaaa", x.named(2, Check.letters("aaaaaa")), 0);
        Check.says("NONE: there is none such.");
        int[] none = {0, 1, 26, 26 << 20, 1 << 25 | 1, 27 << 25, 31 << 25, 1 << 25 | 1 << 30, 1 << 25 | 1 << 31, -1, Integer.MIN_VALUE,
            Integer.MAX_VALUE, Check.letters("zzzzz"), Check.letters("bend")};
        for (int letters : none) {
            Check.due("named(0, " + letters + ")", x.named(0, letters), -1);
            Check.due("named(1, " + letters + ")", x.named(1, letters), -1);
            Check.due("named(2, " + letters + ")", x.named(2, letters), -1);
        }
        Check.due("a is no goods", x.named(1, 1 << 25), -1);
        Check.due("zz is no bag", x.named(2, Check.letters("zz")), -1);
        for (int what : new int[] {3, -1, Integer.MAX_VALUE, Integer.MIN_VALUE}) {
            Check.due("named(" + what + ", a)", x.named(what, 1 << 25), -1);
        }
        Check.due("of a new object", new UphillCarts().named(0, 0), -1);
    }
}
