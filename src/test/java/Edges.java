import java.util.ArrayList;
import java.util.List;
import java.util.function.Supplier;
import java.util.function.ToLongFunction;

/** What the tests of edges have in common: objects to begin with, and how to tell that a call left all as it was. */
abstract class Edges {
    static final int NONE = -1;
    static final int NO_D = -1000000;
    private final Sheet sheet;

    Edges(Sheet sheet) {
        this.sheet = sheet;
    }

    final void under(String heading) {
        sheet.under(heading);
    }

    final void says(String words) {
        sheet.says(words);
    }

    final void due(String call, long got, long want) {
        sheet.due(call, got, want);
    }

    final void due(String call, boolean got, boolean want) {
        sheet.due(call, got ? 1 : 0, want ? 1 : 0);
    }

    /** Numbers that aren't from low to high: beside both, as far off as can be, and those that wrap into them. */
    static int[] outside(int low, int high) {
        List<Integer> all = new ArrayList<>();
        int[] asked = {Integer.MIN_VALUE, Integer.MIN_VALUE + low, low - 2, low - 1, high + 1, high + 2, low + 32,
            high + 32, low + 256, low + 1000, low + 65536, low - 65536, Integer.MAX_VALUE};
        for (int v : asked) if ((v < low || v > high) && !all.contains(v)) all.add(v);
        return all.stream().mapToInt(v -> v).toArray();
    }

    /** Puts signs on the tape, one byte each. */
    static void put(MorningCoin x, String s) {
        int had = x.about(6);
        for (int at = 0; at < s.length(); at += 20) {
            int[] five = new int[5];
            for (int i = 0; i < 20; i++) {
                int b = at + i < s.length() ? s.charAt(at + i) : ' ';
                five[i / 4] = five[i / 4] << 8 | b;
            }
            x.feed(five[0], five[1], five[2], five[3], five[4]);
        }
        x.end(had + s.length());
    }

    static int read(MorningCoin x, String s) {
        x.end(0);
        put(x, s);
        return x.text();
    }

    static void answers(MorningCoin x, int thing, int... all) {
        for (int child = 0; child < all.length; child++) x.answer(thing, child, all[child]);
    }

    /** Children of SEX 0, WIT 0 and no COIN but of those of a set. */
    static MorningCoin children(int many, int coins) {
        MorningCoin x = new MorningCoin();
        for (int i = 0; i < many; i++) x.child(0, 0, 0, false, (coins >> i & 1) == 1);
        return x;
    }

    /** As many CHILDREN as answers to one THING, with the COINS of a set. */
    static MorningCoin asked(int coins, int... all) {
        MorningCoin x = children(all.length, coins);
        x.thing(0, 0, false, 1);
        answers(x, 0, all);
        return x;
    }

    /** Four children, 0 and 2 of them by the coin; ANSWERS 8, 2, 6, 4 of one THING, whose D really is 4. */
    static MorningCoin four() {
        MorningCoin x = new MorningCoin();
        x.child(0, 10, 0, false, true);
        x.child(0, 20, 0, false, false);
        x.child(1, 30, 1, true, true);
        x.child(1, 40, 1, true, false);
        x.thing(0, 5, false, 10);
        answers(x, 0, 8, 2, 6, 4);
        return x;
    }

    /** Something of all there is, with an image behind which more was told, a fault, and a tape. */
    static MorningCoin much() {
        MorningCoin x = four();
        x.thing(1, 9, true, 3);
        x.thing(3, 7, false, 20);
        answers(x, 1, 1, 2, 3, 99);
        answers(x, 2, NONE, 5, 7, 0);
        x.link(0, 1);
        x.step(-50, 150);
        x.costs(77);
        x.had(1, true);
        read(x, "many 2;");
        x.image();
        x.had(3, true);
        x.had(0, false);
        x.answer(2, 0, 50);
        x.link(0, 2);
        x.step(90, 110);
        x.costs(7);
        read(x, "over sex=1;");
        read(x, "many 1; near 10000;");
        put(x, "many 3;over wit=");
        return x;
    }

    /** As many of all as there can be: CHILDREN, THINGS, LINKS, STEPS, TEXTS and bytes of the tape. */
    static MorningCoin most() {
        MorningCoin x = new MorningCoin();
        for (int i = 0; i < 14; i++) x.child(i & 1, i * 7, i % 10, i > 6, i % 3 == 0);
        for (int i = 0; i < 12; i++) x.thing(i & 3, i * 9, i > 5, i * 90);
        for (int i = 0; i < 14; i++) x.answer(11, i, i * 7);
        for (int i = 0; i < 11; i++) x.link(i, i + 1);
        for (int i = 0; i < 9; i++) x.link(i, i + 2);
        for (int i = 0; i < 8; i++) x.step(90, 100 + i);
        for (int i = 0; i < 6; i++) read(x, "many " + i + ";");
        put(x, " ".repeat(292) + "many 15;");
        return x;
    }

    /** A call that is refused: its answer, and that all else answers as if it had not been. */
    final void refused(Supplier<MorningCoin> stage, String call, ToLongFunction<MorningCoin> asked, long want) {
        MorningCoin x = stage.get();
        due(call, asked.applyAsLong(x), want);
        stays(call, x, stage.get());
    }

    /** That two objects answer alike. */
    final void stays(String behind, MorningCoin x, MorningCoin as) {
        List<String> names = new ArrayList<>();
        List<Integer> seen = new ArrayList<>();
        List<Integer> want = new ArrayList<>();
        see(x, names, seen);
        see(as, new ArrayList<>(), want);
        due("behind " + behind + ": how many calls", seen.size(), want.size());
        for (int i = 0; i < Math.min(seen.size(), want.size()); i++) {
            if (!seen.get(i).equals(want.get(i))) due("behind " + behind + ": " + names.get(i), seen.get(i), want.get(i));
        }
    }

    private static void see(MorningCoin x, List<String> names, List<Integer> seen) {
        seeCounts(x, names, seen);
        seeThings(x, names, seen);
        int texts = x.about(2);
        for (int text = 0; text < texts; text++) {
            note(names, seen, "deals of " + text, x.deals(text, NONE));
            note(names, seen, "first deal of " + text, x.deals(text, 0));
            note(names, seen, "second deal of " + text, x.deals(text, 1));
        }
        for (int kind = 0; kind < 4; kind++) note(names, seen, "course of " + kind, x.course(0, kind, 1000, 0));
        seeTape(x, names, seen);
        note(names, seen, "again", x.again());
        seeCounts(x, names, seen);
        seeThings(x, names, seen);
        note(names, seen, "the image's deals", x.deals(0, NONE));
        seeTape(x, names, seen);
    }

    private static void note(List<String> names, List<Integer> seen, String name, int answer) {
        names.add(name);
        seen.add(answer);
    }

    private static void seeCounts(MorningCoin x, List<String> names, List<Integer> seen) {
        for (int what = 0; what < 9; what++) note(names, seen, "about " + what, x.about(what));
        for (int what = 0; what < 2; what++) note(names, seen, "fault " + what, x.fault(what));
    }

    private static void seeThings(MorningCoin x, List<String> names, List<Integer> seen) {
        int children = x.about(0);
        int things = x.about(1);
        for (int t = 0; t < things; t++) {
            note(names, seen, "D of " + t, x.difference(t, 2, 0));
            note(names, seen, "back of " + t, x.back(1 << t, 0));
            note(names, seen, "least land of " + t, x.land(t, false));
            note(names, seen, "greatest land of " + t, x.land(t, true));
            note(names, seen, "ways from 0 to " + t, x.ways(0, t, 1));
            for (int c = 0; c < children; c++) note(names, seen, "answer " + t + " " + c, x.answered(t, c));
        }
    }

    private static void seeTape(MorningCoin x, List<String> names, List<Integer> seen) {
        note(names, seen, "bytes", x.about(6));
        int number = x.text();
        note(names, seen, "text", number);
        note(names, seen, "its deals", x.deals(number, NONE));
        note(names, seen, "its fault", x.fault(0));
        note(names, seen, "its place", x.fault(1));
        note(names, seen, "bytes then", x.about(6));
    }
}
