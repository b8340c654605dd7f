import java.util.ArrayList;
import java.util.List;
import java.util.function.Supplier;
import java.util.function.ToLongFunction;

/** The edges of each promise: its sentences, each refused call, and that such a call leaves all as it was. */
final class PromiseEdges extends Edges {
    private static final List<Supplier<MorningCoin>> STAGES =
        List.of(MorningCoin::new, Edges::much, Edges::most);

    PromiseEdges(Sheet sheet) {
        super(sheet);
    }

    void all() {
        newObject();
        child();
        had();
        thing();
        answer();
        answered();
        difference();
        feed();
        end();
        text();
        fault();
        deals();
        odds();
        paid();
        few();
        changed();
        lost();
        costs();
        back();
        course();
        link();
        ways();
        gap();
        step();
        land();
        live();
        image();
        again();
        about();
        askingChangesNothing();
    }

    private static int bit(boolean is) {
        return is ? 1 : 0;
    }

    /** A call that is refused on a new object, on one with something of all, and on one with the most of all. */
    private void refused(String call, ToLongFunction<MorningCoin> asked, long want) {
        for (Supplier<MorningCoin> stage : STAGES) refused(stage, call, asked, want);
    }

    private static int[] children(Supplier<MorningCoin> stage) {
        return outside(0, stage.get().about(0) - 1);
    }

    private static int[] things(Supplier<MorningCoin> stage) {
        return outside(0, stage.get().about(1) - 1);
    }

    private static int[] texts(Supplier<MorningCoin> stage) {
        return outside(0, stage.get().about(2) - 1);
    }

    /** Sets with a THING that isn't told. */
    private static int[] thingSets(Supplier<MorningCoin> stage) {
        int things = stage.get().about(1);
        List<Integer> all = new ArrayList<>(List.of(-1, Integer.MIN_VALUE, Integer.MIN_VALUE + 1, Integer.MAX_VALUE));
        for (int bit = things; bit < 32; bit += 1 + bit / 6) {
            all.add(1 << bit);
            all.add(1 << bit | (1 << things) - 1);
        }
        return all.stream().mapToInt(v -> v).toArray();
    }

    private void newObject() {
        under("Promise 1");
        says("No CHILDREN, THINGS, TEXTS;");
        MorningCoin x = new MorningCoin();
        nothing("a new object", x);
        due("fault of a new object", x.fault(0), NONE);
        due("place of a new object", x.fault(1), NONE);
        MorningCoin other = most();
        nothing("another new object", new MorningCoin());
        stays("making another", other, most());
        says("THE IMAGE is this.");
        due("going back at once", x.again(), 0);
        nothing("a new object behind going back", x);
        other = most();
        other.end(0);
        due("going back from the most", other.again(), 0);
        nothing("behind going back from the most", other);
        due("a child anew", other.child(1, 1, 1, true, false), 0);
        due("a thing anew", other.thing(0, 0, false, 0), 0);
        due("its answer", other.answered(0, 0), NONE);
        due("a link anew", other.link(0, other.thing(0, 1, false, 0)), 1);
        due("a step anew", other.step(0, 0), 1);
        due("a text anew", other.text(), 0);
    }

    private void nothing(String name, MorningCoin x) {
        int[] all = {0, 0, 0, 0, 0, 1000, 0, 0, 0};
        for (int i = 0; i < all.length; i++) due(name + ", about " + i, x.about(i), all[i]);
        due(name + ", had", x.had(0, true), false);
        due(name + ", answer", x.answer(0, 0, 1), false);
        due(name + ", answered", x.answered(0, 0), NONE);
        due(name + ", difference", x.difference(0, 2, 0), NO_D);
        due(name + ", deals", x.deals(0, NONE), NONE);
        due(name + ", odds", x.odds(0, 0, 0), NONE);
        due(name + ", paid", x.paid(0, 0, 1), NONE);
        due(name + ", few", x.few(0, 0, 1, 0), NONE);
        due(name + ", changed", x.changed(0, 0, true), NONE);
        due(name + ", lost", x.lost(0, true), NO_D);
        due(name + ", back", x.back(0, 0), NO_D);
        due(name + ", course", x.course(0, 0, 1, 0), NONE);
        due(name + ", link", x.link(0, 0), NONE);
        due(name + ", ways", x.ways(0, 0, 1), NONE);
        due(name + ", gap", x.gap(0, 0), NONE);
        due(name + ", land", x.land(0, true), NO_D);
        due(name + ", live", x.live(0, 0, 0), NONE);
        due(name + ", end", x.end(0), 0);
        due(name + ", end 1", x.end(1), NONE);
        due(name + ", image", x.image(), 0);
    }

    private void child() {
        under("Promise 2");
        says("A CHILD: its number.");
        MorningCoin x = new MorningCoin();
        for (int i = 0; i < 14; i++) {
            boolean odd = (i & 1) == 1;
            due("child " + i, x.child(odd ? 1 : 0, odd ? 99 : 0, odd ? 9 : 0, odd, odd), i);
            due("children", x.about(0), i + 1);
            due("had", x.about(7), 0b10101010101010 & (2 << i) - 1);
        }
        says("NONE for others, or if there are 14.");
        refused(Edges::most, "a 15th child", at -> at.child(0, 0, 0, false, true), NONE);
        refused(Edges::most, "a 15th child and no sex", at -> at.child(2, 0, 0, false, true), NONE);
        for (int v : outside(0, 1)) refused("sex " + v, at -> at.child(v, 0, 0, true, true), NONE);
        for (int v : outside(0, 99)) refused("wit " + v, at -> at.child(0, v, 0, true, true), NONE);
        for (int v : outside(0, 9)) refused("home " + v, at -> at.child(0, 0, v, true, true), NONE);
        refused("nothing of it", at -> at.child(-1, 100, 10, true, true), NONE);
        x = much();
        x.child(5, 0, 0, true, true);
        due("the number behind a refused one", x.child(1, 99, 9, true, true), 4);
        due("had then", x.about(7), 0b11110);
        due("coins then", x.about(8), 0b10101);
    }

    private void had() {
        under("Promise 3");
        says("HAD: true.");
        MorningCoin x = most();
        for (int i = 0; i < 14; i++) {
            int before = x.about(7) & ~(1 << i);
            due("had " + i, x.had(i, true), true);
            due("had then " + i, x.about(7), before | 1 << i);
            due("had as it is " + i, x.had(i, true), true);
            due("not had " + i, x.had(i, false), true);
            due("not had then " + i, x.about(7), before);
            due("not had as it is " + i, x.had(i, false), true);
            due("coins " + i, x.about(8), 0b01001001001001);
        }
        due("nobody at the end", x.about(7), 0);
        says("False for others.");
        for (Supplier<MorningCoin> stage : STAGES) {
            for (int v : children(stage)) {
                refused(stage, "had " + v, at -> bit(at.had(v, true)), 0);
                refused(stage, "not had " + v, at -> bit(at.had(v, false)), 0);
            }
        }
    }

    private void thing() {
        under("Promise 4");
        says("A THING: its number.");
        MorningCoin x = new MorningCoin();
        for (int i = 0; i < 12; i++) {
            boolean odd = (i & 1) == 1;
            due("thing " + i, x.thing(odd ? 3 : 0, odd ? 99 : 0, odd, odd ? 999 : 0), i);
            due("things", x.about(1), i + 1);
        }
        says("NONE for others, or if there are 12.");
        refused(Edges::most, "a 13th thing", at -> at.thing(0, 0, false, 0), NONE);
        refused(Edges::most, "a 13th thing and no kind", at -> at.thing(4, 0, false, 0), NONE);
        for (int v : outside(0, 3)) refused("kind " + v, at -> at.thing(v, 0, false, 0), NONE);
        for (int v : outside(0, 99)) refused("age " + v, at -> at.thing(0, v, false, 0), NONE);
        for (int v : outside(0, 999)) refused("price " + v, at -> at.thing(0, 0, true, v), NONE);
        refused("nothing of it", at -> at.thing(-1, -1, true, -1), NONE);
        x = much();
        x.thing(4, 0, false, 0);
        due("the number behind a refused one", x.thing(3, 99, true, 999), 3);
    }

    private void answer() {
        under("Promise 5");
        says("An ANSWER (NONE: not FOUND): true.");
        MorningCoin x = most();
        for (int v : new int[] {0, 99, NONE, 1, 98, NONE}) {
            due("answer " + v, x.answer(11, 13, v), true);
            due("answered then", x.answered(11, 13), v);
            due("the first of all", x.answer(0, 0, v), true);
            due("the first of all then", x.answered(0, 0), v);
            due("the one beside it", x.answered(0, 1), NONE);
            due("that of the next thing", x.answered(1, 0), NONE);
        }
        says("False for others.");
        for (Supplier<MorningCoin> stage : STAGES) {
            for (int v : things(stage)) refused(stage, "answer of thing " + v, at -> bit(at.answer(v, 0, 5)), 0);
            for (int v : children(stage)) {
                refused(stage, "answer by child " + v, at -> bit(at.answer(0, v, 5)), 0);
                refused(stage, "answer of 1 by child " + v, at -> bit(at.answer(1, v, 5)), 0);
            }
            for (int v : outside(-1, 99)) refused(stage, "answer " + v, at -> bit(at.answer(0, 0, v)), 0);
        }
        refused(Edges::most, "answer by child 14, beside the next thing's", at -> bit(at.answer(10, 14, 5)), 0);
        refused(Edges::most, "answer by child -1, beside the last thing's", at -> bit(at.answer(11, -1, 5)), 0);
    }

    private void answered() {
        under("Promise 6");
        says("An ANSWER.");
        MorningCoin x = most();
        for (int i = 0; i < 14; i++) due("answered " + i, x.answered(11, i), i * 7);
        says("NONE: not FOUND, and for others.");
        for (int i = 0; i < 14; i++) due("not found " + i, x.answered(10, i), NONE);
        for (int t = 0; t < 12; t++) answers(x, t, 7, 7, 7, 7, 7, 7, 7, 7, 7, 7, 7, 7, 7, 7);
        for (int v : outside(0, 11)) due("thing " + v, x.answered(v, 0), NONE);
        for (int v : outside(0, 13)) {
            due("child " + v, x.answered(0, v), NONE);
            due("of the last, child " + v, x.answered(11, v), NONE);
        }
        x = asked(1, 7, 7);
        due("a child that isn't told", x.answered(0, 2), NONE);
        due("a thing that isn't told", x.answered(1, 0), NONE);
        x.child(0, 0, 0, false, false);
        x.thing(0, 0, false, 0);
        due("by a new child", x.answered(0, 2), NONE);
        due("of a new thing", x.answered(1, 0), NONE);
    }

    private void difference() {
        under("Promise 7");
        says("D really over CHILDREN of a SEX (2: all): 0 the upper, 1 the lower (n m; not shortened), 2 thousandths.");
        MorningCoin x = new MorningCoin();
        for (int i = 0; i < 8; i++) x.child(i / 4, 0, 0, false, i % 4 < 2);
        x.thing(0, 0, false, 0);
        answers(x, 0, 5, 6, 2, 2, 9, 7, 8, 3);
        int[][] due = {{14, 4, 3500}, {10, 4, 2500}, {48, 16, 3000}};
        for (int sex = 0; sex < 3; sex++) {
            for (int what = 0; what < 3; what++) due("sex " + sex + ", " + what, x.difference(0, sex, what), due[sex][what]);
        }
        says("-1000000 if there is none, and for others.");
        x.answer(0, 0, NONE);
        x.answer(0, 1, NONE);
        for (int what = 0; what < 3; what++) due("of sex 0 none, " + what, x.difference(0, 0, what), NO_D);
        due("of sex 1 still", x.difference(0, 1, 0), 10);
        due("of all still", x.difference(0, 2, 0), 16 * 4 - 15 * 2);
        x = children(2, 1);
        x.thing(0, 0, false, 0);
        answers(x, 0, 3, 2);
        due("nobody of a sex", x.difference(0, 1, 0), NO_D);
        for (int what = 0; what < 3; what++) {
            int asked = what;
            for (int v : outside(0, 2)) refused("sex " + v, at -> at.difference(0, v, asked), NO_D);
        }
        for (int v : outside(0, 2)) refused("what " + v, at -> at.difference(0, 2, v), NO_D);
        for (Supplier<MorningCoin> stage : STAGES) {
            for (int v : things(stage)) refused(stage, "thing " + v, at -> at.difference(v, 2, 0), NO_D);
        }
    }

    private void feed() {
        under("Promise 8");
        says("Twenty bytes come behind the tape, the highest of a first: how many it has.");
        for (int place = 0; place < 20; place++) {
            MorningCoin x = new MorningCoin();
            int[] five = {0x20202020, 0x20202020, 0x20202020, 0x20202020, 0x20202020};
            five[place / 4] ^= 0xa4 << 24 - place % 4 * 8;
            due("fed", x.feed(five[0], five[1], five[2], five[3], five[4]), 20);
            due("text", x.text(), NONE);
            due("a byte's place", x.fault(1), place);
        }
        MorningCoin x = new MorningCoin();
        int blank = 0x20202020;
        for (int i = 1; i <= 15; i++) due("feed " + i, x.feed(blank, blank, blank, blank, blank), 20 * i);
        due("bytes", x.about(6), 300);
        x.end(0);
        put(x, "man");
        due("behind three", x.feed(0x7920323b, blank, blank, blank, blank), 23);
        due("they are read as one", x.text(), 0);
        says("NONE, and none come, if there would be more than 300.");
        for (int had = 278; had <= 300; had++) {
            int bytes = had;
            Supplier<MorningCoin> stage = () -> {
                MorningCoin at = four();
                put(at, " ".repeat(bytes - 7) + "many 2;");
                return at;
            };
            int want = had > 280 ? NONE : had + 20;
            if (had > 280) refused(stage, "feed behind " + had, at -> at.feed(-1, -1, -1, -1, -1), want);
            else due("feed behind " + had, stage.get().feed(-1, -1, -1, -1, -1), want);
        }
    }

    private void end() {
        under("Promise 9");
        says("The tape has its first n bytes alone: n.");
        String text = "many 2;over 1=1;$";
        int[] places = {NONE, 0, 0, 0, 4, 5, 6, NONE, 7, 7, 7, 11, 12, 13, 14, 15, NONE, 16};
        for (int n = 0; n <= text.length(); n++) {
            MorningCoin x = new MorningCoin();
            put(x, text);
            due("end " + n, x.end(n), n);
            due("bytes", x.about(6), n);
            due("text of the first " + n, x.text(), places[n] == NONE ? 0 : NONE);
            due("place of the first " + n, x.fault(1), places[n]);
        }
        due("of the empty tape", new MorningCoin().end(0), 0);
        MorningCoin x = most();
        due("of the whole tape", x.end(300), 300);
        due("of a part of it", x.end(10), 10);
        due("of as many as there are", x.end(10), 10);
        due("it doesn't come back", x.end(11), NONE);
        says("NONE, and nothing is done, if it has not so many, or n is below 0.");
        for (Supplier<MorningCoin> stage : STAGES) {
            for (int v : outside(0, stage.get().about(6))) refused(stage, "end " + v, at -> at.end(v), NONE);
        }
    }

    private void text() {
        under("Promise 10");
        says("The tape (empty then) is a TEXT: its number.");
        MorningCoin x = four();
        for (int i = 0; i < 6; i++) {
            put(x, "many " + i + ";");
            due("text " + i, x.text(), i);
            due("texts", x.about(2), i + 1);
            due("the tape", x.about(6), 0);
            due("without a fault", x.fault(0), 0);
        }
        due("the empty tape", four().text(), 0);
        says("NONE: it has a FAULT;");
        refusedTexts();
        says("or (the tape stays) there are 6.");
        refused(Edges::most, "a seventh text", at -> at.text(), NONE);
        Supplier<MorningCoin> stage = () -> {
            MorningCoin at = most();
            at.end(0);
            return at;
        };
        refused(stage, "a seventh text of an empty tape", at -> at.text(), NONE);
        x = most();
        x.text();
        due("the tape stays", x.about(6), 300);
        due("it isn't read", x.fault(0), 0);
        due("nor has it a place", x.fault(1), NONE);
        x.again();
        due("it is read when there is room", x.text(), NONE);
        due("its fault", x.fault(0), 2);
        due("its place", x.fault(1), 297);
    }

    /** A TEXT with a FAULT: the tape is empty and the FAULT the latest, but all else is as it was. */
    private void refusedTexts() {
        String[] texts = {"$", "many 15;", "value (((((((((", "many 1;many 1;", "over had=1;", "over 1=1;".repeat(11)};
        int[] places = {0, 5, 14, 7, 5, 90};
        for (int i = 0; i < 6; i++) {
            MorningCoin x = much();
            due("text " + texts[i], read(x, texts[i]), NONE);
            due("fault of " + texts[i], x.fault(0), i + 1);
            due("place of " + texts[i], x.fault(1), places[i]);
            due("the tape behind " + texts[i], x.about(6), 0);
            due("texts behind " + texts[i], x.about(2), 2);
            due("no such text", x.deals(2, NONE), NONE);
            MorningCoin as = much();
            as.end(0);
            read(x, "many 1;;");
            read(as, "many 1;;");
            stays("a text with fault " + (i + 1), x, as);
        }
        MorningCoin x = four();
        read(x, "many 1;near 9;value 1;over 1=1;together 1=1;$");
        due("nothing of a refused text is left", read(x, ""), 0);
        due("nor its laws", x.deals(0, NONE), 16);
        due("nor its over", x.deals(0, 15), 15);
        x.live(0, 0, 0);
        due("nor its value", x.answered(0, 0), 0);
        due("a refused value", read(x, "value 1+2--3;$"), NONE);
        due("a shorter one", read(x, "value -2+9;"), 1);
        x.live(1, 0, 0);
        due("nothing of the refused value is left", x.answered(0, 0), 7);
    }

    private void fault() {
        under("Promise 11");
        says("Of the latest text that was read: 0 its FAULT (0 without), 1 its place (NONE without).");
        MorningCoin x = new MorningCoin();
        String[] texts = {"many 15;", "", "value sexb;", "many 1;", "$"};
        int[][] due = {{2, 5}, {0, NONE}, {5, 6}, {0, NONE}, {1, 0}};
        for (int i = 0; i < texts.length; i++) {
            read(x, texts[i]);
            due("fault of " + texts[i], x.fault(0), due[i][0]);
            due("place of " + texts[i], x.fault(1), due[i][1]);
            due("fault again", x.fault(0), due[i][0]);
        }
        x.again();
        due("behind going back", x.fault(0), 1);
        due("behind going back, the place", x.fault(1), 0);
        put(x, "many 15;");
        due("a tape that isn't read", x.fault(1), 0);
        says("NONE for others, and ahead of any.");
        for (int v : outside(0, 1)) refused("fault " + v, at -> at.fault(v), NONE);
        x = four();
        due("ahead of any", x.fault(0), NONE);
        due("ahead of any, the place", x.fault(1), NONE);
        put(x, "many 15;");
        due("a tape alone", x.fault(0), NONE);
        x.again();
        due("ahead of any, behind going back", x.fault(0), NONE);
    }

    private void deals() {
        under("Promise 12");
        says("DEALS: how many (i NONE), the i-th DEALT.");
        MorningCoin x = four();
        read(x, "many 2;over wit=40;");
        int[] all = {0b0011, 0b0101, 0b0110, 0b0001, 0b0010, 0b0100};
        due("how many", x.deals(0, NONE), 6);
        for (int i = 5; i >= 0; i--) due("deal " + i, x.deals(0, i), all[i]);
        says("NONE if there is none such, and for others.");
        for (int v : outside(-1, 5)) due("deal " + v, x.deals(0, v), NONE);
        read(x, "many 5;");
        due("of no deals", x.deals(1, NONE), 0);
        due("of no deals, the first", x.deals(1, 0), NONE);
        for (Supplier<MorningCoin> stage : STAGES) {
            for (int v : texts(stage)) {
                refused(stage, "how many of text " + v, at -> at.deals(v, NONE), NONE);
                refused(stage, "the first of text " + v, at -> at.deals(v, 0), NONE);
            }
            for (int v : outside(-1, 16383)) refused(stage, "deal " + v, at -> at.deals(0, v), NONE);
        }
        x = four();
        read(x, "many 2;");
        read(x, "many 3;");
        for (int i = 0; i < 3; i++) {
            due("by turns, the first", x.deals(0, 5), 12);
            due("by turns, the second", x.deals(1, 3), 14);
            due("by turns, how many", x.deals(1, NONE) + 10 * x.deals(0, NONE), 64);
        }
        x.child(0, 0, 0, false, false);
        due("with another child", x.deals(1, NONE), 10);
        due("with another child, the last", x.deals(1, 9), 0b11100);
        x.again();
        read(x, "many 0;");
        due("behind going back", x.deals(0, NONE), 1);
    }

    private void odds() {
        under("Promise 13");
        says("ODDS of a THING: AS FAR (what 0), thousandths of all DEALS (cut; 1),"
            + " whether it STANDS by t (1, 0; 1000 + t).");
        MorningCoin x = four();
        read(x, "many 2;");
        due("as far", x.odds(0, 0, 0), 1);
        due("thousandths", x.odds(0, 0, 1), 166);
        for (int t = 1; t <= 1000; t += t < 160 || t > 170 ? 37 : 1) due("by " + t, x.odds(0, 0, 1000 + t), t < 167 ? 0 : 1);
        due("by 1000", x.odds(0, 0, 2000), 1);
        x.had(0, false);
        x.had(1, true);
        due("five of six", x.odds(0, 0, 1), 833);
        x.had(2, false);
        x.had(3, true);
        due("six of six", x.odds(0, 0, 1), 1000);
        says("NONE: none, and for others.");
        x = four();
        for (int c = 0; c < 4; c++) x.had(c, false);
        read(x, "many 2;");
        for (int what : new int[] {0, 1, 1001, 2000}) due("none, " + what, x.odds(0, 0, what), NONE);
        for (int what : outside(0, 1)) {
            if (what <= 1000 || what > 2000) refused("what " + what, at -> at.odds(0, 0, what), NONE);
        }
        for (int what : new int[] {999, 1000, 2001, 2002, Integer.MIN_VALUE + 500, Integer.MIN_VALUE + 1001}) {
            refused("what " + what, at -> at.odds(0, 0, what), NONE);
        }
        for (Supplier<MorningCoin> stage : STAGES) {
            for (int v : things(stage)) refused(stage, "thing " + v, at -> at.odds(0, v, 0), NONE);
            for (int v : texts(stage)) refused(stage, "text " + v, at -> at.odds(v, 0, 0), NONE);
        }
    }

    private void paid() {
        under("Promise 14");
        says("PAID of a set of THINGS (bits): those that are.");
        MorningCoin x = four();
        x.thing(0, 0, false, 0);
        answers(x, 1, 8, 2, 6, 4);
        read(x, "many 2;");
        for (int set = 0; set < 4; set++) due("set " + set, x.paid(0, set, 334), set);
        for (int set = 0; set < 4; set++) due("set " + set + " by 333", x.paid(0, set, 333), set == 3 ? 0 : set);
        for (int set = 0; set < 4; set++) due("set " + set + " by 166", x.paid(0, set, 166), 0);
        says("NONE for others (THINGS that aren't told).");
        for (Supplier<MorningCoin> stage : STAGES) {
            for (int v : thingSets(stage)) refused(stage, "set " + v, at -> at.paid(0, v, 1000), NONE);
            for (int v : texts(stage)) refused(stage, "text " + v, at -> at.paid(v, 0, 1000), NONE);
        }
        for (int v : outside(1, 1000)) refused("t " + v, at -> at.paid(0, 0, v), NONE);
        due("all that can be told, one of them with odds", most().paid(0, 4095, 1000), 1 << 11);
    }

    private void few() {
        under("Promise 15");
        says("FEW: how many (what 0), the lowest (1), the second (2).");
        MorningCoin x = four();
        read(x, "many 2;");
        int[][] due = {{0, NONE, NONE}, {1, 0, NONE}, {2, 0, 2}};
        int[] ts = {166, 200, 1000};
        for (int i = 0; i < 3; i++) {
            for (int what = 0; what < 3; what++) due("by " + ts[i] + ", " + what, x.few(0, 0, ts[i], what), due[i][what]);
        }
        says("NONE: more than 2, no ODDS, none such, and for others.");
        x = asked(7, 5, 5, 5, 1, 1, 1);
        x.text();
        for (int what = 0; what < 3; what++) due("more than two, " + what, x.few(0, 0, 1000, what), NONE);
        x.had(0, false);
        x.had(1, false);
        x.had(2, false);
        for (int what = 0; what < 3; what++) due("no odds, " + what, x.few(0, 0, 1000, what), NONE);
        x.had(0, true);
        read(x, "many 7;");
        for (int what = 0; what < 3; what++) due("no deals, " + what, x.few(1, 0, 1000, what), NONE);
        Supplier<MorningCoin> two = () -> {
            MorningCoin at = four();
            at.text();
            return at;
        };
        due("there is a second", two.get().few(0, 0, 1000, 2), 2);
        for (int v : outside(0, 2)) {
            refused("what " + v, at -> at.few(0, 0, 1, v), NONE);
            refused(two, "what " + v, at -> at.few(0, 0, 1000, v), NONE);
        }
        for (int v : outside(1, 1000)) refused("t " + v, at -> at.few(0, 0, v, 0), NONE);
        for (Supplier<MorningCoin> stage : STAGES) {
            for (int v : things(stage)) refused(stage, "thing " + v, at -> at.few(0, v, 1, 0), NONE);
            for (int v : texts(stage)) refused(stage, "text " + v, at -> at.few(v, 0, 1, 0), NONE);
        }
    }

    private void changed() {
        under("Promise 16");
        says("CHANGED: the least (most false), the greatest AS FAR.");
        MorningCoin x = four();
        read(x, "many 2;");
        x.had(1, true);
        due("least", x.changed(0, 0, false), 1);
        due("greatest", x.changed(0, 0, true), 2);
        due("had stays", x.about(7), 0b0111);
        says("NONE: no ODDS at all, and for others.");
        answers(x, 0, NONE, NONE, NONE, 4);
        due("no odds at all, least", x.changed(0, 0, false), NONE);
        due("no odds at all, greatest", x.changed(0, 0, true), NONE);
        for (Supplier<MorningCoin> stage : STAGES) {
            for (int v : things(stage)) refused(stage, "thing " + v, at -> at.changed(0, v, true), NONE);
            for (int v : texts(stage)) refused(stage, "text " + v, at -> at.changed(v, 0, false), NONE);
        }
    }

    private void lost() {
        under("Promise 17");
        says("LOST: the least (most false), the greatest.");
        MorningCoin x = four();
        x.answer(0, 3, NONE);
        due("least", x.lost(0, false), -43500);
        due("greatest", x.lost(0, true), 6000);
        due("the answer isn't found even so", x.answered(0, 3), NONE);
        says("-1000000: nobody or all are HAD, and for others.");
        for (int c = 0; c < 4; c++) x.had(c, false);
        due("nobody, least", x.lost(0, false), NO_D);
        due("nobody, greatest", x.lost(0, true), NO_D);
        for (int c = 0; c < 4; c++) x.had(c, true);
        due("all, least", x.lost(0, false), NO_D);
        due("all, greatest", x.lost(0, true), NO_D);
        x.had(3, false);
        due("all but one", x.lost(0, true), 16000 / 3);
        for (Supplier<MorningCoin> stage : STAGES) {
            for (int v : things(stage)) {
                refused(stage, "thing " + v, at -> at.lost(v, true), NO_D);
                refused(stage, "thing " + v + ", least", at -> at.lost(v, false), NO_D);
            }
        }
    }

    private void costs() {
        under("Promise 18");
        says("COST: true.");
        MorningCoin x = four();
        for (int v : new int[] {1, 2, 1000, 9998, 9999}) {
            due("costs " + v, x.costs(v), true);
            due("cost", x.about(5), v);
            due("back by it", x.back(1, 0), 40000 / v);
        }
        says("False for others.");
        for (int v : outside(1, 9999)) refused("costs " + v, at -> bit(at.costs(v)), 0);
    }

    private void back() {
        under("Promise 19");
        says("BACK of a set of THINGS (what 0), MOST (1).");
        MorningCoin x = four();
        x.thing(0, 0, false, 9);
        answers(x, 1, 9, 2, 7, 4);
        due("back", x.back(3, 0), 85);
        due("most", x.back(3, 1), 1);
        due("most of one", x.back(1, 1), 0);
        says("-1000000: none has D, and for others (THINGS that aren't told).");
        for (int what = 0; what < 2; what++) {
            int asked = what;
            due("no thing, " + what, x.back(0, what), NO_D);
            for (Supplier<MorningCoin> stage : STAGES) {
                for (int v : thingSets(stage)) refused(stage, "set " + v + ", " + what, at -> at.back(v, asked), NO_D);
            }
        }
        for (int v : outside(0, 1)) refused("what " + v, at -> at.back(0, v), NO_D);
        for (int v : outside(0, 1)) refused(Edges::much, "what " + v, at -> at.back(1, v), NO_D);
        for (int c = 0; c < 4; c++) x.had(c, true);
        due("none has D", x.back(3, 0), NO_D);
        due("none has D, most", x.back(3, 1), NO_D);
    }

    private void course() {
        under("Promise 20");
        says("COURSE: 0 bits, 1 GONE, 2 AGAIN.");
        MorningCoin x = four();
        x.thing(0, 6, false, 0);
        x.thing(0, 7, false, 0);
        answers(x, 2, 8, 2, 6, 4);
        read(x, "many 2;");
        int[] due = {0b101, 1, 2};
        for (int what = 0; what < 3; what++) due("what " + what, x.course(0, 0, 167, what), due[what]);
        says("NONE: none such, and for others.");
        int[] none = {0, NONE, NONE};
        for (int what = 0; what < 3; what++) {
            due("none stands, " + what, x.course(0, 0, 166, what), none[what]);
            due("of no thing, " + what, x.course(0, 3, 167, what), none[what]);
        }
        for (int v : outside(0, 2)) {
            refused("what " + v, at -> at.course(0, 0, 1000, v), NONE);
            due("what " + v + ", where there is one again", x.course(0, 0, 167, v), NONE);
        }
        for (int v : outside(0, 3)) refused("kind " + v, at -> at.course(0, v, 1000, 0), NONE);
        for (int v : outside(1, 1000)) refused("t " + v, at -> at.course(0, 0, v, 0), NONE);
        for (Supplier<MorningCoin> stage : STAGES) {
            for (int v : texts(stage)) refused(stage, "text " + v, at -> at.course(v, 0, 1000, 0), NONE);
        }
    }

    private void link() {
        under("Promise 21");
        says("A LINK: how many there are.");
        MorningCoin x = new MorningCoin();
        for (int i = 0; i < 12; i++) x.thing(0, i, false, 0);
        int many = 0;
        for (int to = 11; to > 0; to--) {
            for (int from = 0; from < to && many < 20; from++) due("link " + from + " " + to, x.link(from, to), ++many);
        }
        due("links", x.about(3), 20);
        says("NONE for others, from one to the same one, one that is told already, or if there are 20.");
        for (Supplier<MorningCoin> stage : STAGES) {
            for (int v : things(stage)) {
                refused(stage, "link from " + v, at -> at.link(v, 1), NONE);
                refused(stage, "link to " + v, at -> at.link(0, v), NONE);
                refused(stage, "link from and to " + v, at -> at.link(v, v), NONE);
            }
            for (int i = 0; i < stage.get().about(1); i++) {
                int same = i;
                refused(stage, "link from " + i + " to the same one", at -> at.link(same, same), NONE);
            }
        }
        refused(Edges::much, "a link that is told already", at -> at.link(0, 2), NONE);
        refused(Edges::much, "a link of the image", at -> at.link(0, 1), NONE);
        refused(Edges::much, "a link to a lesser age", at -> at.link(1, 2), NONE);
        refused(Edges::much, "a link back", at -> at.link(1, 0), NONE);
        refused(Edges::most, "a 21st link", at -> at.link(9, 11), NONE);
        refused(Edges::most, "a 21st link that is told already", at -> at.link(0, 1), NONE);
        Supplier<MorningCoin> alike = () -> {
            MorningCoin at = new MorningCoin();
            at.thing(0, 5, false, 0);
            at.thing(0, 5, false, 0);
            return at;
        };
        refused(alike, "a link to one of the same age", at -> at.link(0, 1), NONE);
        due("another link", much().link(2, 1), 3);
    }

    private void ways() {
        under("Promise 22");
        says("WAYS: the fewest LINKS (what 0; NONE: no way), how many (1).");
        MorningCoin x = most();
        due("fewest", x.ways(0, 11, 0), 6);
        due("how many", x.ways(0, 11, 1), 89);
        due("no way", x.ways(11, 0, 0), NONE);
        due("no way, how many", x.ways(11, 0, 1), 0);
        due("to itself", x.ways(11, 11, 0), 0);
        due("to itself, how many", x.ways(11, 11, 1), 1);
        due("to the next", x.ways(10, 11, 0), 1);
        due("to the next, how many", x.ways(10, 11, 1), 1);
        x = much();
        due("from one to one that no link comes to", x.ways(1, 0, 0), NONE);
        due("from one to one beside it", x.ways(2, 1, 1), 0);
        says("NONE for others.");
        for (int v : outside(0, 1)) {
            refused("what " + v, at -> at.ways(0, 0, v), NONE);
            refused("what " + v, at -> at.ways(0, 1, v), NONE);
        }
        for (int what = 0; what < 2; what++) {
            int asked = what;
            for (Supplier<MorningCoin> stage : STAGES) {
                for (int v : things(stage)) {
                    refused(stage, "ways from " + v, at -> at.ways(v, 0, asked), NONE);
                    refused(stage, "ways to " + v, at -> at.ways(0, v, asked), NONE);
                    refused(stage, "ways from and to " + v, at -> at.ways(v, v, asked), NONE);
                }
            }
        }
    }

    private void gap() {
        under("Promise 23");
        says("GAP as far, or farther: of how many DEALS.");
        MorningCoin x = four();
        read(x, "many 2;");
        due("gap", x.gap(0, 0), 4);
        says("NONE: GAP really is none, no DEALS, and for others.");
        x.had(2, false);
        due("of sex 1 none", x.gap(0, 0), NONE);
        x.had(2, true);
        x.answer(0, 1, NONE);
        due("of sex 0 none", x.gap(0, 0), NONE);
        x.answer(0, 1, 0);
        due("8 less 2, each deal as far", x.gap(0, 0), 4);
        x.had(2, false);
        x.had(3, true);
        due("8 less -2", x.gap(0, 0), 2);
        read(x, "many 5;");
        due("no deals", x.gap(1, 0), NONE);
        for (Supplier<MorningCoin> stage : STAGES) {
            for (int v : things(stage)) refused(stage, "thing " + v, at -> at.gap(0, v), NONE);
            for (int v : texts(stage)) refused(stage, "text " + v, at -> at.gap(v, 0), NONE);
        }
    }

    private void step() {
        under("Promise 24");
        says("A STEP of THE LAND: how many there are.");
        MorningCoin x = four();
        int[][] steps = {{-100, -100}, {-100, 200}, {200, 200}, {0, 0}, {-1, 0}, {0, 1}, {-99, 199}, {100, 100}};
        for (int i = 0; i < 8; i++) due("step " + i, x.step(steps[i][0], steps[i][1]), i + 1);
        due("steps", x.about(4), 8);
        says("NONE for others (LOW above HIGH), or if there are 8.");
        for (int v : outside(-100, 200)) {
            refused("step from " + v, at -> at.step(v, 200), NONE);
            refused("step to " + v, at -> at.step(-100, v), NONE);
            refused("step from and to " + v, at -> at.step(v, v), NONE);
        }
        refused("low above high by one", at -> at.step(1, 0), NONE);
        refused("low above high, edges", at -> at.step(200, -100), NONE);
        refused("low above high, high ones", at -> at.step(200, 199), NONE);
        refused("low above high, low ones", at -> at.step(-99, -100), NONE);
        refused(Edges::most, "a ninth step", at -> at.step(0, 0), NONE);
    }

    private void land() {
        under("Promise 25");
        says("THE LAND for a THING: the least (most false), the greatest.");
        MorningCoin x = four();
        x.step(-100, 200);
        due("least", x.land(0, false), -4000);
        due("greatest", x.land(0, true), 8000);
        says("-1000000: no D, and for others.");
        x.thing(0, 0, false, 0);
        due("no D, least", x.land(1, false), NO_D);
        due("no D, greatest", x.land(1, true), NO_D);
        for (Supplier<MorningCoin> stage : STAGES) {
            for (int v : things(stage)) {
                refused(stage, "thing " + v, at -> at.land(v, true), NO_D);
                refused(stage, "thing " + v + ", least", at -> at.land(v, false), NO_D);
            }
        }
    }

    private void live() {
        under("Promise 26");
        says("LIVED: how many were FOUND.");
        MorningCoin x = four();
        read(x, "value wit+had;found sex=1;");
        due("two of four", x.live(0, 0, 0), 2);
        int[] due = {NONE, NONE, 31, 40};
        for (int c = 0; c < 4; c++) due("answer " + c, x.answered(0, c), due[c]);
        x.thing(0, 0, false, 0);
        x.live(0, 1, 9999);
        due("of the thing alone", x.answered(0, 2), 31);
        says("NONE for others.");
        for (int v : outside(0, 9999)) refused("seed " + v, at -> at.live(0, 0, v), NONE);
        for (Supplier<MorningCoin> stage : STAGES) {
            for (int v : things(stage)) refused(stage, "thing " + v, at -> at.live(0, v, 0), NONE);
            for (int v : texts(stage)) refused(stage, "text " + v, at -> at.live(v, 0, 0), NONE);
        }
    }

    private void image() {
        under("Promise 27");
        says("THE IMAGE is as all is now: how many CHILDREN there are.");
        due("of nothing", new MorningCoin().image(), 0);
        due("of four", four().image(), 4);
        due("of the most", most().image(), 14);
        MorningCoin x = most();
        x.image();
        for (int i = 0; i < 14; i++) x.had(i, false);
        for (int i = 0; i < 14; i++) x.answer(11, i, NONE);
        x.costs(9);
        due("back to the most", x.again(), 14);
        x.costs(1000);
        MorningCoin as = most();
        as.image();
        stays("an image and going back to it", x, as);
        x = much();
        x.image();
        as = much();
        as.image();
        as.again();
        stays("going back at once", x, as);
        x = four();
        x.image();
        x.child(0, 0, 0, true, true);
        due("a later image", x.image(), 5);
        x.child(0, 0, 0, true, true);
        due("back to the later", x.again(), 5);
    }

    private void again() {
        under("Promise 28");
        says("All is as at THE IMAGE again (it stays): how many CHILDREN there are.");
        MorningCoin x = much();
        due("back", x.again(), 4);
        int[] all = {4, 3, 1, 1, 1, 77, 16, 0b0111, 0b0101};
        for (int i = 0; i < all.length; i++) due("about " + i, x.about(i), all[i]);
        int[][] answers = {{8, 2, 6, 4}, {1, 2, 3, 99}, {NONE, 5, 7, 0}};
        for (int t = 0; t < 3; t++) for (int c = 0; c < 4; c++) due("answer " + t + c, x.answered(t, c), answers[t][c]);
        due("the link of the image", x.ways(0, 1, 1), 1);
        due("the link behind it", x.ways(0, 2, 1), 0);
        due("the land, of 4/3", x.land(0, true), 1999);
        due("the fault stays", x.fault(0), 2);
        for (int i = 0; i < 3; i++) {
            x.child(0, 0, 0, true, true);
            x.thing(2, 2, true, 2);
            x.answer(0, 0, 77);
            x.answer(3, 4, 77);
            x.had(2, false);
            x.costs(9999);
            x.link(2, 1);
            x.step(0, 0);
            read(x, "many 4;");
            due("back, time " + i, x.again(), 4);
            for (int what = 0; what < 9; what++) due("about " + what, x.about(what), what == 6 ? 0 : all[what]);
            for (int t = 0; t < 3; t++) for (int c = 0; c < 4; c++) due("answer " + t + c, x.answered(t, c), answers[t][c]);
        }
        due("a child that was gone", x.child(1, 1, 1, true, false), 4);
        due("it isn't had", x.about(7), 0b0111);
        due("a thing that was gone", x.thing(0, 50, false, 1), 3);
        for (int c = 0; c < 5; c++) due("its answers are", x.answered(3, c), NONE);
        due("D of it", x.difference(3, 2, 0), NO_D);
        due("a link that was gone", x.link(2, 1), 2);
        due("a step that was gone", x.step(100, 100), 2);
        due("a text that was gone", read(x, "many 5;"), 1);
        due("its deals", x.deals(1, NONE), 1);
        due("those of the image, of five", x.deals(0, NONE), 10);
    }

    private void about() {
        under("Promise 29");
        says("0 CHILDREN, 1 THINGS, 2 TEXTS, 3 LINKS, 4 STEPS of THE LAND, 5 COST, 6 bytes of the tape,"
            + " 7 who are HAD (bits), 8 COINS (bits).");
        MorningCoin x = much();
        int[] all = {4, 3, 2, 2, 2, 7, 16, 0b1110, 0b0101};
        for (int i = 0; i < 9; i++) due("about " + i, x.about(i), all[i]);
        x = most();
        x.costs(9999);
        for (int i = 0; i < 14; i++) x.had(i, true);
        int[] full = {14, 12, 6, 20, 8, 9999, 300, 16383, 0b01001001001001};
        for (int i = 0; i < 9; i++) due("about the most, " + i, x.about(i), full[i]);
        says("NONE for others.");
        for (int v : outside(0, 8)) refused("about " + v, at -> at.about(v), NONE);
    }

    /** Calls that only ask leave all as it was, whatever they answer. */
    private void askingChangesNothing() {
        under("Promise 28");
        for (Supplier<MorningCoin> stage : STAGES) {
            MorningCoin x = stage.get();
            for (int i = -1; i < 3; i++) {
                x.answered(i, i);
                x.difference(i, i, i);
                x.deals(i, i);
                x.odds(i, i, i);
                x.odds(0, i, 1500);
                x.paid(i, 1, 500);
                x.few(0, i, 1000, 0);
                x.changed(0, i, true);
                x.lost(i, true);
                x.back(i, 0);
                x.course(0, i, 500, 1);
                x.ways(0, i, 1);
                x.gap(0, i);
                x.land(i, true);
                x.about(i);
                x.fault(i);
            }
            stays("asking", x, stage.get());
        }
    }
}
