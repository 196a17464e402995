import java.util.ArrayList;
import java.util.List;
import java.util.NoSuchElementException;
import java.util.Random;

/** Random texts and calls: UphillCarts must answer as PlainModel does, and throw only what the document names. */
public final class ModelTest {
    private static final int OBJECTS = 1500;
    private static final int CALLS = 260;
    private static final String[] OWN = {"a", "b", "c", "d", "foot", "mid", "top", "z", "zz", "abcdef", "hay", "sizes", "lif"};
    // Laws by which the HOUR matters much, so that WAYS from one HOUR end otherwise than from another.
    private static final String[] LIFTS = {"size*air", "size*height*air/40", "air+height/10", "size*(9-air)", "size+gust*air",
        "size*(hour<12)*3", "size*height/(hour-3)", "20*(air>4)", "size*slope/4-gust", "30-hour"};
    private static final String[] PULLS = {"size-hour", "size-slope/2-gust*3", "size/(air-5)", "air*8", "size*(air<>5)",
        "30+hour*2-height/3", "size*(hour>4 and hour<20)", "size-height/2"};
    private static int wrong = 0;

    private final Random random;
    private final UphillCarts real = new UphillCarts();
    private final PlainModel model = new PlainModel();
    private final List<String> log = new ArrayList<>();
    private boolean heavy;
    private String told = "";

    private ModelTest(long seed) {
        random = new Random(seed);
    }

    private int up(int n) {
        return random.nextInt(n);
    }

    private int between(int low, int high) {
        return low + up(high - low + 1);
    }

    /** Mostly in range, at times just beyond it or far off. */
    private int around(int low, int high) {
        int how = up(40);
        if (how == 0) {
            return low - 1;
        }
        if (how == 1) {
            return high + 1;
        }
        if (how == 2) {
            return new int[] {Integer.MIN_VALUE, Integer.MAX_VALUE, -2, 1000, -1000}[up(5)];
        }
        return between(low, high);
    }

    private int hour() {
        return around(0, 23);
    }

    private int bend() {
        return around(0, Math.max(0, model.count(0) - 1));
    }

    private int good() {
        return around(0, Math.max(0, model.count(1) - 1));
    }

    private int sort() {
        return around(0, Math.max(0, model.count(2) - 1));
    }

    private int number(int low, int high) {
        return up(250) == 0 ? high + 1 : up(250) == 0 ? Math.max(0, low - 1) : up(10) == 0 ? high : between(low, high);
    }

    private String own() {
        return OWN[up(OWN.length)];
    }

    private String expression(int depth) {
        int how = up(depth > 4 ? 2 : 9);
        switch (how) {
            case 0: return String.valueOf(up(100) == 0 ? between(9990, 10001) : up(30) == 0 ? 9999 : up(30));
            case 1: return PlainModel.NAMES.get(up(6));
            case 2: return "(" + expression(depth + 1) + ")";
            case 3: return up(4) == 0 ? "not " + expression(depth + 1) : "not(" + expression(depth + 1) + (up(60) == 0 ? "" : ")");
            case 4: return expression(depth + 1) + " " + (up(2) == 0 ? "and" : "or") + " " + expression(depth + 1);
            case 5: return expression(depth + 1) + new String[] {"<", "<=", "=", "<>", ">=", ">"}[up(6)] + expression(depth + 1);
            case 6: return up(3) > 0 ? "hour" : "9999*9999*9999" + "*+-/".charAt(up(4)) + expression(depth + 1);
            default: return expression(depth + 1) + "+-*/".charAt(up(4)) + expression(depth + 1);
        }
    }

    private String line(int n) {
        switch (n) {
            case 0: return "bend " + own() + " " + (up(2) == 0 ? number(0, 99) : number(0, 30)) + (up(2) == 0 ? " wide" : "")
                + (up(2) == 0 ? " wind " + (up(2) == 0 ? "-" : "") + number(0, 9) : "");
            case 1: return "goods " + own() + " " + number(1, 60) + " " + number(0, 99) + " " + number(0, 99);
            case 2: return "bag " + own() + " " + number(1, 9) + " " + number(0, 3);
            case 3: return "depot " + bendName() + " " + number(0, 9);
            case 4: return "thief " + bendName() + " " + number(0, 99);
            case 5:
                StringBuilder b = new StringBuilder("warm");
                for (int i = up(20) == 0 ? between(20, 26) : between(1, 8); i > 0; i--) {
                    b.append(' ').append(up(200) == 0 ? 10 : up(10));
                }
                return b.toString();
            case 6: return "horse " + (up(2) == 0 ? number(1, 199) : number(20, 90)) + " " + (up(2) == 0 ? number(0, 20) : number(0, 99));
            case 7: return "rope " + number(0, 99);
            case 8: return "stone " + number(1, 20);
            case 9: return "seed " + number(0, 99999);
            case 10: return "law lift " + (up(3) == 0 ? expression(0) : LIFTS[up(LIFTS.length)]);
            default: return "law pull " + (up(3) == 0 ? expression(0) : PULLS[up(PULLS.length)]);
        }
    }

    private final List<String> bendNames = new ArrayList<>();

    private String bendName() {
        return bendNames.isEmpty() || up(40) == 0 ? own() : bendNames.get(up(bendNames.size()));
    }

    private String newText() {
        bendNames.clear();
        List<String> lines = new ArrayList<>();
        int bends = up(8) == 0 ? up(11) : between(2, 6);
        List<String> pool = new ArrayList<>(java.util.Arrays.asList(OWN));
        java.util.Collections.shuffle(pool, random);
        for (int i = 0; i < bends; i++) {
            String name = up(200) == 0 ? own() : pool.get(i);
            bendNames.add(name);
            lines.add(line(0).replaceFirst("bend [a-z]+", "bend " + name));
        }
        heavy = up(30) == 0;
        int goods = heavy ? 6 : up(60) == 0 ? 7 : up(4);
        for (int i = 0; i < goods; i++) {
            lines.add(line(1).replaceFirst("goods [a-z]+", "goods " + (up(200) == 0 ? own() : pool.get(i + 3))));
        }
        int bags = heavy ? 3 : up(60) == 0 ? 4 : up(3);
        for (int i = 0; i < bags; i++) {
            lines.add(line(2).replaceFirst("bag [a-z]+", "bag " + (up(200) == 0 ? own() : pool.get(i + 5))));
        }
        for (int i = up(bends + 1); i > 0; i--) {
            lines.add("depot " + (up(30) == 0 ? bendName() : bendNames.get(i - 1)) + " " + number(0, 9));
        }
        for (int i = up(bends + 1); i > 0; i--) {
            lines.add("thief " + (up(30) == 0 ? bendName() : bendNames.get(i - 1)) + " " + number(0, 99));
        }
        for (int n = 5; n < 12; n++) {
            if (up(2) == 0) {
                lines.add(line(n));
            }
        }
        if (up(15) == 0) {
            lines.add(line(up(12)));
        }
        if (up(12) == 0 && !lines.isEmpty()) {
            // Those that name a BEND may come ahead of it then, a fault.
            String head = lines.remove(up(lines.size()));
            lines.add(up(lines.size() + 1), head);
        }
        StringBuilder all = new StringBuilder();
        for (String l : lines) {
            all.append(l).append(up(10) == 0 ? " ;\n" : ";");
        }
        if (up(6) == 0 && all.length() > 0) {
            mutate(all);
        }
        return all.toString();
    }

    private void mutate(StringBuilder all) {
        int at = up(all.length());
        switch (up(5)) {
            case 0: all.deleteCharAt(at); break;
            case 1: all.insert(at, ";()+-*/<=> 0a!A\t\n".charAt(up(17))); break;
            case 2: all.setCharAt(at, ";()+-*/<=> 0a~Z".charAt(up(15))); break;
            case 3: all.setLength(at); break;
            default: all.insert(at, " " + PlainModel.LANGUAGE.get(up(24)) + " "); break;
        }
    }

    private void due(String call, long got, long want) {
        log.add(call + " -> " + want);
        if (got != want) {
            wrong++;
            if (wrong <= 10) {
                System.out.println("text: " + told);
                for (String l : log.subList(Math.max(0, log.size() - 40), log.size())) {
                    System.out.println("  " + l);
                }
                System.out.println(call + " answered " + got + ", due is " + want);
            }
        }
    }

    private static long bit(boolean b) {
        return b ? 1 : 0;
    }

    private void tell() {
        told = newText();
        byte[] bytes = told.getBytes(java.nio.charset.StandardCharsets.ISO_8859_1);
        int n = Math.min(bytes.length, 700);
        for (int i = 0; i < n; i += 20) {
            int[] five = new int[5];
            for (int k = 0; k < 20; k++) {
                five[k / 4] = five[k / 4] << 8 | (i + k < n ? bytes[i + k] & 255 : 32);
            }
            due("feed", real.feed(five[0], five[1], five[2], five[3], five[4]), model.feed(five));
        }
        int asked = up(30) == 0 ? n - 1 : n;
        due("text(" + asked + ")", real.text(asked), model.text(asked));
        due("fault(0)", real.fault(0), model.fault(0));
        due("fault(1)", real.fault(1), model.fault(1));
        for (int i = 0; i < 14; i++) {
            due("count(" + i + ")", real.count(i), model.count(i));
        }
    }

    private void look(int b, int what) {
        int got = 0;
        int want = 0;
        try {
            got = real.look(b, what);
        } catch (IndexOutOfBoundsException e) {
            got = Integer.MIN_VALUE;
        } catch (NoSuchElementException e) {
            got = Integer.MIN_VALUE + 1;
        }
        try {
            want = model.look(b, what);
        } catch (IndexOutOfBoundsException e) {
            want = Integer.MIN_VALUE;
        } catch (NoSuchElementException e) {
            want = Integer.MIN_VALUE + 1;
        }
        due("look(" + b + ", " + what + ")", got, want);
    }

    private int letters() {
        String name = own();
        int letters = 0;
        for (int i = 0; i < 6; i++) {
            letters = letters << 5 | (i < name.length() ? name.charAt(i) - 'a' + 1 : 0);
        }
        return up(20) == 0 ? letters + 1 : up(20) == 0 ? random.nextInt() : letters;
    }

    private void changing(int n) {
        int a;
        int b;
        switch (n) {
            case 0: a = good(); boolean is = up(3) > 0; due("load(" + a + ", " + is + ")", bit(real.load(a, is)), bit(model.load(a, is))); break;
            case 1: a = sort(); b = around(0, 3); due("tie(" + a + ", " + b + ")", bit(real.tie(a, b)), bit(model.tie(a, b))); break;
            case 2: a = around(0, 9); due("stones(" + a + ")", bit(real.stones(a)), bit(model.stones(a))); break;
            case 3: a = hour(); due("at(" + a + ")", bit(real.at(a)), bit(model.at(a))); break;
            case 4: a = up(3) == 0 ? around(0, 50) : up(3); due("go(" + a + ")", real.go(a), model.go(a)); break;
            case 5: a = around(-9, 9); due("trade(" + a + ")", real.trade(a), model.trade(a)); break;
            case 6: a = around(-4, 4); due("trade(" + a + ")", real.trade(a), model.trade(a)); break;
            case 7: due("undo()", real.undo(), model.undo()); break;
            case 8: due("keep()", real.keep(), model.keep()); break;
            default: due("back()", real.back(), model.back()); break;
        }
    }

    private void asking(int n) {
        int a;
        int b;
        int c;
        int d;
        switch (n) {
            case 0: a = around(0, 2); b = letters(); due("named(" + a + ", " + b + ")", real.named(a, b), model.named(a, b)); break;
            case 1: look(bend(), around(0, 5)); break;
            case 2: a = good(); b = around(0, 3); due("goods(" + a + ", " + b + ")", real.goods(a, b), model.goods(a, b)); break;
            case 3: a = sort(); b = around(0, 2); due("bag(" + a + ", " + b + ")", real.bag(a, b), model.bag(a, b)); break;
            case 4: a = sort(); b = bend(); c = hour(); due("lift(" + a + ", " + b + ", " + c + ")", real.lift(a, b, c), model.lift(a, b, c)); break;
            case 5: a = bend(); b = hour(); due("pull(" + a + ", " + b + ")", real.pull(a, b), model.pull(a, b)); break;
            case 6: a = bend(); b = hour(); due("net(" + a + ", " + b + ")", real.net(a, b), model.net(a, b)); break;
            case 7: a = around(0, 1); b = sort(); c = bend(); d = hour();
                due("law(" + a + ", " + b + ", " + c + ", " + d + ")", real.law(a, b, c, d), model.law(a, b, c, d)); break;
            case 8: a = hour(); b = around(0, 1); due("led(" + a + ", " + b + ")", real.led(a, b), model.led(a, b)); break;
            case 9: due("when()", real.when(), model.when()); break;
            case 10: a = around(0, 1); due("span(" + a + ")", real.span(a), model.span(a)); break;
            case 11: a = hour(); due("ballast(" + a + ")", real.ballast(a), model.ballast(a)); break;
            case 12: a = hour(); b = bend(); due("behind(" + a + ", " + b + ")", real.behind(a, b), model.behind(a, b)); break;
            case 13: a = hour(); due("ropes(" + a + ")", real.ropes(a), model.ropes(a)); break;
            case 14: a = hour(); b = up(2) == 0 ? hour() : a + between(-9, 9); c = around(0, 1);
                due("meet(" + a + ", " + b + ", " + c + ")", real.meet(a, b, c), model.meet(a, b, c)); break;
            case 15: a = hour(); b = up(2) == 0 ? hour() : a + between(-9, 9);
                due("waits(" + a + ", " + b + ")", real.waits(a, b), model.waits(a, b)); break;
            case 16: a = good(); b = bend(); due("worth(" + a + ", " + b + ")", real.worth(a, b), model.worth(a, b)); break;
            case 17: a = bend(); due("lands(" + a + ")", real.lands(a), model.lands(a)); break;
            case 18: a = up(20) == 0 ? Integer.MIN_VALUE : random.nextInt() & Integer.MAX_VALUE; due("chance(" + a + ")", real.chance(a), model.chance(a)); break;
            case 19: a = around(0, 5); b = a == 2 ? good() : a == 3 ? sort() : around(0, 0); c = hour();
                due("tried(" + a + ", " + b + ", " + c + ")", real.tried(a, b, c), model.tried(a, b, c)); break;
            case 20: a = around(0, 13); due("count(" + a + ")", real.count(a), model.count(a)); break;
            default: a = around(0, 1); due("fault(" + a + ")", real.fault(a), model.fault(a)); break;
        }
    }

    private void dear(int n) {
        int a;
        int b;
        switch (n) {
            case 0: a = hour(); b = around(0, 3); due("most(" + a + ", " + b + ")", real.most(a, b), model.most(a, b)); break;
            case 1: a = hour(); due("toll(" + a + ")", real.toll(a), model.toll(a)); break;
            case 2: due("fits()", real.fits(), model.fits()); break;
            case 3: a = around(0, up(2) == 0 ? 5 : 200); b = around(0, 2); due("fit(" + a + ", " + b + ")", real.fit(a, b), model.fit(a, b)); break;
            default: a = good(); due("sure(" + a + ")", real.sure(a), model.sure(a)); break;
        }
    }

    private void seeing(int n) {
        int a;
        switch (n) {
            case 0:
            case 1:
                int b = bend();
                int h = hour();
                int low = between(-60, 120);
                int high = low + around(0, 120);
                if (up(60) == 0) {
                    low = around(-9999, -9998);
                }
                if (up(60) == 0) {
                    high = around(9998, 9999);
                }
                due("see(" + b + ", " + h + ", " + low + ", " + high + ")", real.see(b, h, low, high), model.see(b, h, low, high));
                break;
            case 2: a = around(0, Math.max(0, model.count(7) - 1)); due("strike(" + a + ")", real.strike(a), model.strike(a)); break;
            default: a = up(2) == 0 ? -1 : around(-1, model.count(7)); due("known(" + a + ")", bit(real.known(a)), bit(model.known(a))); break;
        }
    }

    private void run() {
        for (int i = 0; i < 15; i++) {
            asking(up(22));
        }
        tell();
        for (int again = 0; again < 6 && model.fault(0) != 0; again++) {
            tell();
        }
        for (int call = 0; call < CALLS; call++) {
            int how = up(call % 100 < 15 ? 60 : 100);
            if (how < 45) {
                changing(up(3) == 0 ? up(3) : up(10));
            } else if (how < 88) {
                asking(up(22));
            } else if (how < 95) {
                if (!heavy || up(40) == 0) {
                    dear(up(5));
                }
            } else if (how < 99) {
                seeing(up(4));
            } else if (up(6) == 0) {
                tell();
            } else if (up(4) == 0) {
                int a = around(-2, 20);
                due("text(" + a + ")", real.text(a), model.text(a));
            }
        }
    }

    public static void main(String[] args) {
        int good = 0;
        for (int object = 0; object < OBJECTS && wrong == 0; object++) {
            ModelTest t = new ModelTest(object + (args.length > 0 ? Long.parseLong(args[0]) : 0));
            t.run();
            good += t.model.fault(0) == 0 ? 1 : 0;
        }
        System.out.println(wrong == 0 ? "ModelTest: all answers are as due, " + good + " of " + OBJECTS + " with a good text"
            : "ModelTest: " + wrong + " answers are not as due");
        if (wrong != 0) {
            System.exit(1);
        }
    }
}
