import java.util.ArrayList;
import java.util.List;
import java.util.TreeMap;

/** Holds the class to the model of the document, over many runs of calls that look drawn. */
public final class ModelTest {
    private static final boolean TELLS = Boolean.getBoolean("tells");
    private final Chance chance;
    private final MorningCoin coin = new MorningCoin();
    private final Model model = new Model();
    private final List<String> calls = new ArrayList<>();
    private final TextMaker maker;
    private final int childrenMost;
    private final TreeMap<String, Integer> seen;
    private int wrong = 0;

    private ModelTest(long seed, int childrenMost, TreeMap<String, Integer> seen) {
        chance = new Chance(seed);
        maker = new TextMaker(chance, !chance.oneIn(3));
        this.childrenMost = childrenMost;
        this.seen = seen;
    }

    public static void main(String[] args) {
        int runs = args.length > 0 ? Integer.parseInt(args[0]) : 400;
        int from = args.length > 1 ? Integer.parseInt(args[1]) : 0;
        TreeMap<String, Integer> seen = new TreeMap<>();
        int wrong = 0;
        for (int run = from; run < from + runs; run++) {
            int most = run % 50 == 7 ? 14 : run % 10 == 3 ? 9 : 3 + run % 6;
            ModelTest test = new ModelTest(run, most, seen);
            test.run(most > 9 ? 60 : 250);
            if (test.wrong > 0) {
                System.out.println("run " + run + " went wrong");
                wrong++;
            }
            if (wrong > 4) break;
        }
        if (TELLS) seen.forEach((what, many) -> System.out.println(many + " " + what));
        System.out.println(wrong == 0 ? "all runs are as the model's" : wrong + " runs are not");
        if (wrong != 0) System.exit(1);
    }

    private void run(int many) {
        start();
        for (int i = 0; i < many && wrong == 0; i++) step();
        for (int what = -1; what < 10; what++) same("about(" + what + ")", coin.about(what), model.about(what));
        for (int t = 0; t < 12; t++) {
            for (int c = 0; c < 14; c++) same("answered " + t + " " + c, coin.answered(t, c), model.answered(t, c));
        }
    }

    private void same(String call, long got, long due) {
        calls.add(call + " = " + got);
        String name = call.replaceAll("[^a-z].*", "");
        seen.merge(name + (got == -1 || got == Model.NO_D ? " none" : ""), 1, Integer::sum);
        if (name.equals("text")) seen.merge("fault " + model.faultWhat, 1, Integer::sum);
        if (got == due) return;
        if (wrong++ > 0) return;
        calls.forEach(System.out::println);
        System.out.println("due is " + due);
    }

    private void start() {
        int children = chance.oneIn(8) ? chance.below(childrenMost + 1) : childrenMost - chance.below(2);
        for (int i = 0; i < children; i++) child();
        int things = 1 + chance.below(5);
        for (int i = 0; i < things; i++) {
            thing();
            if (!chance.oneIn(5)) for (int c = 0; c < children; c++) if (!chance.oneIn(9)) answer(i, c);
        }
        for (int i = chance.below(3); i >= 0; i--) text();
        if (!chance.oneIn(4)) same("image()", coin.image(), model.image());
    }

    private void child() {
        if (model.children.size() >= childrenMost) return;
        int sex = chance.about(0, 1);
        int wit = chance.about(0, 99);
        int home = chance.about(0, chance.oneIn(2) ? 2 : 9);
        boolean works = chance.oneIn(2);
        boolean is = chance.oneIn(2);
        same("child(" + sex + ", " + wit + ", " + home + ", " + works + ", " + is + ")",
            coin.child(sex, wit, home, works, is), model.child(sex, wit, home, works, is));
    }

    private void thing() {
        int kind = chance.about(0, 3) & (chance.oneIn(2) ? 1 : -1);
        int age = chance.about(0, chance.oneIn(2) ? 5 : 99);
        boolean less = chance.oneIn(3);
        int price = chance.about(0, 999);
        same("thing(" + kind + ", " + age + ", " + less + ", " + price + ")",
            coin.thing(kind, age, less, price), model.thing(kind, age, less, price));
    }

    private void answer(int t, int c) {
        int v = chance.oneIn(3) ? chance.about(-1, 99) : chance.about(0, 9);
        same("answer(" + t + ", " + c + ", " + v + ")", bit(coin.answer(t, c, v)), bit(model.answer(t, c, v)));
    }

    private static int bit(boolean b) {
        return b ? 1 : 0;
    }

    private void text() {
        String s = maker.text();
        int left = s.length();
        for (int at = 0; at < s.length(); at += 20) {
            int[] five = new int[5];
            for (int i = 0; i < 20; i++) {
                int b = at + i < s.length() ? s.charAt(at + i) : 32;
                five[i / 4] = five[i / 4] << 8 | b;
            }
            same("feed " + s.substring(at, Math.min(at + 20, s.length())),
                coin.feed(five[0], five[1], five[2], five[3], five[4]), model.feed(five));
        }
        if (!chance.oneIn(20)) same("end(" + left + ")", coin.end(left), model.end(left));
        same("text()", coin.text(), model.text());
        same("fault(0)", coin.fault(0), model.fault(0));
        same("fault(1)", coin.fault(1), model.fault(1));
    }

    private int anyText() {
        return chance.about(0, Math.max(0, model.texts.size() - 1));
    }

    private int anyThing() {
        return chance.about(0, Math.max(0, model.things.size() - 1));
    }

    private int anyChild() {
        return chance.about(0, Math.max(0, model.children.size() - 1));
    }

    private int anyT() {
        return chance.oneIn(3) ? chance.about(1, 1000) : chance.about(1, 400);
    }

    private void step() {
        int x = anyText();
        int t = anyThing();
        int c = anyChild();
        int p = anyT();
        int what = chance.about(0, 2);
        boolean most = chance.oneIn(2);
        int set = chance.about(0, (1 << model.things.size()) - 1);
        switch (chance.below(38)) {
            case 0: if (chance.oneIn(3)) child(); break;
            case 1: thing(); break;
            case 2: case 3: case 4: answer(t, c); break;
            case 5: case 6: text(); break;
            case 7: case 8:
                same("had(" + c + ", " + most + ")", bit(coin.had(c, most)), bit(model.had(c, most)));
                break;
            case 9: case 10: {
                int sex = chance.about(0, 2);
                same("difference(" + t + ", " + sex + ", " + what + ")", coin.difference(t, sex, what),
                    model.difference(t, sex, what));
                break;
            }
            case 11: case 12: {
                int i = chance.about(-1, 1 << Math.min(childrenMost, 5));
                same("deals(" + x + ", " + i + ")", coin.deals(x, i), model.deals(x, i));
                break;
            }
            case 13: case 14: case 15: {
                int w = chance.oneIn(2) ? chance.about(0, 1) : 1000 + p;
                same("odds(" + x + ", " + t + ", " + w + ")", coin.odds(x, t, w), model.odds(x, t, w));
                break;
            }
            case 16: case 17:
                same("paid(" + x + ", " + set + ", " + p + ")", coin.paid(x, set, p), model.paid(x, set, p));
                break;
            case 18: case 19: case 20:
                same("few(" + x + ", " + t + ", " + p + ", " + what + ")", coin.few(x, t, p, what),
                    model.few(x, t, p, what));
                break;
            case 21: case 22:
                same("changed(" + x + ", " + t + ", " + most + ")", coin.changed(x, t, most),
                    model.changed(x, t, most));
                break;
            case 23: case 24:
                same("lost(" + t + ", " + most + ")", coin.lost(t, most), model.lost(t, most));
                break;
            case 25: case 26: {
                int w = chance.about(0, 1);
                same("back(" + set + ", " + w + ")", coin.back(set, w), model.back(set, w));
                break;
            }
            case 27: case 28: {
                int kind = chance.about(0, 3) & (chance.oneIn(2) ? 1 : -1);
                same("course(" + x + ", " + kind + ", " + p + ", " + what + ")", coin.course(x, kind, p, what),
                    model.course(x, kind, p, what));
                break;
            }
            case 29: case 30: case 31: linkOrWay(t); break;
            case 32:
                same("gap(" + x + ", " + t + ")", coin.gap(x, t), model.gap(x, t));
                break;
            case 33: landOrStep(t, most); break;
            case 34: case 35: {
                int seed = chance.about(0, 9999);
                same("live(" + x + ", " + t + ", " + seed + ")", coin.live(x, t, seed), model.live(x, t, seed));
                break;
            }
            case 36: rare(); break;
            default: {
                int w = chance.about(0, 8);
                same("about(" + w + ")", coin.about(w), model.about(w));
                same("answered(" + t + ", " + c + ")", coin.answered(t, c), model.answered(t, c));
            }
        }
    }

    private void linkOrWay(int t) {
        int to = anyThing();
        if (chance.oneIn(2)) {
            same("link(" + t + ", " + to + ")", coin.link(t, to), model.link(t, to));
        } else {
            int w = chance.about(0, 1);
            same("ways(" + t + ", " + to + ", " + w + ")", coin.ways(t, to, w), model.ways(t, to, w));
        }
    }

    private void landOrStep(int t, boolean most) {
        if (chance.oneIn(2)) {
            int low = chance.about(-100, 200);
            int high = chance.about(Math.max(-100, Math.min(low, 200)), 200);
            same("step(" + low + ", " + high + ")", coin.step(low, high), model.step(low, high));
        } else {
            same("land(" + t + ", " + most + ")", coin.land(t, most), model.land(t, most));
        }
    }

    private void rare() {
        switch (chance.below(6)) {
            case 0: case 1: same("image()", coin.image(), model.image()); break;
            case 2: same("again()", coin.again(), model.again()); break;
            case 3: {
                int v = chance.about(1, 9999);
                same("costs(" + v + ")", bit(coin.costs(v)), bit(model.costs(v)));
                break;
            }
            case 4: {
                int n = chance.about(0, 20);
                same("end(" + n + ")", coin.end(n), model.end(n));
                break;
            }
            default: {
                int w = chance.about(0, 1);
                same("fault(" + w + ")", coin.fault(w), model.fault(w));
            }
        }
    }
}
