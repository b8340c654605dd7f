/** Each promise of the document: ordinary calls, the edges that it names, wrong arguments. */
public final class PromiseTest {
    private static final int NONE = -1;
    private static final int NO_D = -1000000;
    private static int promise = 0;
    private static int wrong = 0;

    private PromiseTest() { }

    private static void due(String call, long got, long want) {
        if (got != want) {
            wrong++;
            System.out.println("promise " + promise + ": " + call + " answered " + got + ", due is " + want);
        }
    }

    private static void due(String call, boolean got, boolean want) {
        due(call, got ? 1 : 0, want ? 1 : 0);
    }

    private static void fault(String s, int what, int place) {
        MorningCoin x = new MorningCoin();
        int number = Edges.read(x, s);
        due("text of " + s, number, what == 0 ? 0 : NONE);
        due("fault(0) of " + s, x.fault(0), what);
        due("fault(1) of " + s, x.fault(1), place);
    }

    private static void newObject() {
        promise = 1;
        MorningCoin x = new MorningCoin();
        int[] all = {0, 0, 0, 0, 0, 1000, 0, 0, 0};
        for (int i = 0; i < all.length; i++) due("about " + i, x.about(i), all[i]);
        due("NONE", MorningCoin.NONE, -1);
        x = Edges.four();
        Edges.put(x, "many 1;");
        x.text();
        x.costs(7);
        x.step(1, 2);
        due("again", x.again(), 0);
        for (int i = 0; i < all.length; i++) due("about again " + i, x.about(i), all[i]);
    }

    private static void child() {
        promise = 2;
        MorningCoin x = new MorningCoin();
        due("sex -1", x.child(-1, 0, 0, true, true), NONE);
        due("sex 2", x.child(2, 0, 0, true, true), NONE);
        due("wit -1", x.child(0, -1, 0, true, true), NONE);
        due("wit 100", x.child(0, 100, 0, true, true), NONE);
        due("home -1", x.child(0, 0, -1, true, true), NONE);
        due("home 10", x.child(0, 0, 10, true, true), NONE);
        due("none came", x.about(0), 0);
        for (int i = 0; i < 14; i++) due("child " + i, x.child(i % 2, i * 99 / 13, i % 10, i > 5, i % 3 == 0), i);
        due("the 15th", x.child(0, 0, 0, false, true), NONE);
        due("children", x.about(0), 14);
        due("had at first as the coin", x.about(7), 0b01001001001001);
        due("coins", x.about(8), 0b01001001001001);
    }

    private static void had() {
        promise = 3;
        MorningCoin x = Edges.four();
        due("had(1)", x.had(1, true), true);
        due("had(0)", x.had(0, false), true);
        due("had(2) as it is", x.had(2, true), true);
        due("who are had", x.about(7), 0b0110);
        due("coins stay", x.about(8), 0b0101);
        due("had(-1)", x.had(-1, true), false);
        due("had(4)", x.had(4, true), false);
        due("had(32)", x.had(32, true), false);
        due("who are had then", x.about(7), 0b0110);
    }

    private static void thing() {
        promise = 4;
        MorningCoin x = new MorningCoin();
        due("kind -1", x.thing(-1, 0, true, 0), NONE);
        due("kind 4", x.thing(4, 0, true, 0), NONE);
        due("age -1", x.thing(0, -1, true, 0), NONE);
        due("age 100", x.thing(0, 100, true, 0), NONE);
        due("price -1", x.thing(0, 0, true, -1), NONE);
        due("price 1000", x.thing(0, 0, true, 1000), NONE);
        for (int i = 0; i < 12; i++) due("thing " + i, x.thing(i % 4, i * 9, i > 5, i * 90), i);
        due("the 13th", x.thing(0, 0, false, 0), NONE);
        due("things", x.about(1), 12);
        due("at the edges", new MorningCoin().thing(3, 99, false, 999), 0);
    }

    private static void answer() {
        promise = 5;
        MorningCoin x = Edges.four();
        due("0", x.answer(0, 0, 0), true);
        due("99", x.answer(0, 1, 99), true);
        due("none", x.answer(0, 2, NONE), true);
        due("100", x.answer(0, 3, 100), false);
        due("-2", x.answer(0, 3, -2), false);
        due("thing -1", x.answer(-1, 0, 1), false);
        due("thing 1", x.answer(1, 0, 1), false);
        due("child -1", x.answer(0, -1, 1), false);
        due("child 4", x.answer(0, 4, 1), false);
        int[] all = {0, 99, NONE, 4};
        for (int i = 0; i < 4; i++) due("answered " + i, x.answered(0, i), all[i]);
    }

    private static void answered() {
        promise = 6;
        MorningCoin x = Edges.four();
        x.thing(1, 1, true, 1);
        x.child(0, 0, 0, false, false);
        due("told", x.answered(0, 2), 6);
        due("of the new thing", x.answered(1, 2), NONE);
        due("by the new child", x.answered(0, 4), NONE);
        due("thing 2", x.answered(2, 0), NONE);
        due("thing -1", x.answered(-1, 0), NONE);
        due("child 5", x.answered(0, 5), NONE);
        due("child -1", x.answered(0, -1), NONE);
    }

    private static void difference() {
        promise = 7;
        MorningCoin x = Edges.four();
        due("upper", x.difference(0, 2, 0), (8 + 6) * 2 - (2 + 4) * 2);
        due("lower", x.difference(0, 2, 1), 4);
        due("thousandths", x.difference(0, 2, 2), 4000);
        due("of sex 0", x.difference(0, 0, 0), 6);
        due("of sex 0, lower", x.difference(0, 0, 1), 1);
        due("of sex 1", x.difference(0, 1, 2), 2000);
        x.answer(0, 3, NONE);
        due("without one", x.difference(0, 2, 0), 14 * 1 - 2 * 2);
        due("without one, lower", x.difference(0, 2, 1), 2);
        due("of sex 1, none", x.difference(0, 1, 2), NO_D);
        int less = x.thing(0, 5, true, 10);
        Edges.answers(x, less, 1, 2, 0, 2);
        x.had(2, false);
        due("less", x.difference(less, 2, 0), -(1 * 3 - 4 * 1));
        due("less, lower", x.difference(less, 2, 1), 3);
        due("less, cut", x.difference(less, 2, 2), 333);
        Edges.answers(x, less, 2, 1, 2, 2);
        due("cut towards 0", x.difference(less, 2, 2), -333);
        x.had(0, false);
        due("nobody had", x.difference(0, 2, 0), NO_D);
        for (int what : new int[] {-1, 3}) due("what " + what, Edges.four().difference(0, 2, what), NO_D);
        for (int sex : new int[] {-1, 3}) due("sex " + sex, Edges.four().difference(0, sex, 0), NO_D);
        for (int t : new int[] {-1, 1}) due("thing " + t, Edges.four().difference(t, 2, 0), NO_D);
    }

    private static void feed() {
        promise = 8;
        MorningCoin x = new MorningCoin();
        x.feed(0x6f766572, 0x20736578, 0x3d31203b, 0x20202020, 0x20202020);
        due("the highest first", x.text(), 0);
        for (int i = 1; i <= 15; i++) due("feed " + i, x.feed(-1, 0, 1, 2, 3), 20 * i);
        due("the 16th", x.feed(0, 0, 0, 0, 0), NONE);
        due("none came", x.about(6), 300);
        x.end(281);
        due("over 300", x.feed(0, 0, 0, 0, 0), NONE);
        x.end(280);
        due("up to 300", x.feed(0, 0, 0, 0, 0), 300);
        x = new MorningCoin();
        x.feed(0x20202020, 0x20202020, 0x20202020, 0x20202020, 0x20ff2020);
        x.text();
        due("a byte above 127 is no TOKEN", x.fault(0), 1);
        due("its place", x.fault(1), 17);
    }

    private static void end() {
        promise = 9;
        MorningCoin x = new MorningCoin();
        due("end(0)", x.end(0), 0);
        due("end(1) of none", x.end(1), NONE);
        Edges.put(x, "many 12 ;");
        due("end(10)", x.end(10), NONE);
        due("end(-1)", x.end(-1), NONE);
        due("nothing is done", x.about(6), 9);
        due("end(6)", x.end(6), 6);
        Edges.put(x, ";");
        x.text();
        for (int i = 0; i < 4; i++) x.child(0, 0, 0, false, false);
        due("the first bytes stayed", x.deals(0, NONE), 4);
    }

    private static void text() {
        promise = 10;
        MorningCoin x = new MorningCoin();
        due("the empty tape", x.text(), 0);
        Edges.put(x, "many 15;");
        due("a FAULT", x.text(), NONE);
        due("the tape is empty", x.about(6), 0);
        for (int i = 1; i < 6; i++) due("text " + i, Edges.read(x, "many 1;"), i);
        due("texts", x.about(2), 6);
        Edges.read(x, "many 15;");
        due("the 7th", x.text(), NONE);
        due("the tape stays", x.about(6), 8);
        due("and is not read", x.fault(0), 0);
        x.again();
        due("then it is read", x.text(), NONE);
        due("with its fault", x.fault(0), 2);
        String three = "value " + "1+".repeat(146) + "1;";
        due("300 bytes", Edges.read(x, three), 0);
        x.child(0, 0, 0, false, false);
        x.thing(0, 0, false, 0);
        x.live(0, 0, 0);
        due("a sum of 147", x.answered(0, 0), 99);
    }

    private static void grammar() {
        promise = 10;
        fault("", 0, NONE);
        fault(" \n ", 0, NONE);
        fault("many 0;near 9999;value 1;", 0, NONE);
        fault("many\n14\n;near 0;", 0, NONE);
        fault("value -(wit)*-2/3+4-home;", 0, NONE);
        fault("together not not sex<=sexb and wit#witb or home>=homeb;", 0, NONE);
        fault("apart works>worksb;over works=1;found had=1 and age<9 or draw>3;", 0, NONE);
        fault("over sex=1;".repeat(10), 0, NONE);
        fault("over ((((((((1))))))))=--------1;", 0, NONE);
        fault("over not not not not -(-(1))=1 and not not not not -(-(1))=1;", 0, NONE);
        fault("value 00009999;", 0, NONE);
    }

    private static void fault() {
        promise = 11;
        MorningCoin x = new MorningCoin();
        due("fault(0) ahead of any", x.fault(0), NONE);
        due("fault(1) ahead of any", x.fault(1), NONE);
        x.text();
        due("fault(0) without", x.fault(0), 0);
        due("fault(1) without", x.fault(1), NONE);
        due("fault(2)", x.fault(2), NONE);
        due("fault(-1)", x.fault(-1), NONE);
        standing();
        fault("many 15;", 2, 5);
        fault("near 10000;", 2, 5);
        fault("value 10000;", 2, 6);
        fault("value 99999999999999999999;", 2, 6);
        fault("many 10000;", 2, 5);
        fault("value (((((((((1)))))))));", 3, 14);
        fault("value ---------1;", 3, 14);
        fault("over not not not not not not not not not sex=1;", 3, 37);
        fault("over not (-(-(-(-(sex=1;", 3, 16);
        fault("over not not not not -(-(1))=-(-(-(1)));", 3, 33);
        fault("many 1;many 2;", 4, 7);
        fault("near 1;near 2;", 4, 7);
        fault("value 1; value 2;", 4, 9);
        for (String b : new String[] {"sexb", "witb", "homeb", "worksb"}) {
            fault("over " + b + "=1;", 5, 5);
            fault("value " + b + ";", 5, 6);
            fault("found " + b + "=1;", 5, 6);
        }
        for (String b : new String[] {"had", "age", "draw"}) {
            fault("over " + b + "=1;", 5, 5);
            fault("together " + b + "=1;", 5, 9);
            fault("apart " + b + "=1;", 5, 6);
        }
        fault("over sex=1;".repeat(10) + " over sex=1;", 6, 111);
        fault("many 1;" + "over sex=1;".repeat(9) + "many 1;", 4, 106);
        fault("over sex=1;".repeat(10) + "foo", 1, 110);
    }

    private static void standing() {
        fault("foo;", 1, 0);
        fault("Many 1;", 1, 0);
        fault("many", 1, 4);
        fault("many  ", 1, 6);
        fault("many sex;", 1, 5);
        fault("many -1;", 1, 5);
        fault("many 1", 1, 6);
        fault("many 1 2;", 1, 7);
        fault("over;", 1, 4);
        fault("over sex;", 1, 8);
        fault("over sex=1=1;", 1, 10);
        fault("over (sex=1);", 1, 9);
        fault("over sex=1 and;", 1, 14);
        fault("over sex=not 1;", 1, 9);
        fault("over (not 1)=1;", 1, 6);
        fault("over sex=1);", 1, 10);
        fault("over (sex;", 1, 9);
        fault("over sex<>1;", 1, 9);
        fault("over sex=<1;", 1, 9);
        fault("over 1 and 1=1;", 1, 7);
        fault("value sex=1;", 1, 9);
        fault("value not 1;", 1, 6);
        fault("value 1 and 1;", 1, 8);
        fault("value foo;", 1, 6);
        fault("value many;", 1, 6);
        fault("value ();", 1, 7);
        fault("value 1 10000;", 1, 8);
        fault("value 1+*2;", 1, 8);
        fault("value 1 sex;", 1, 8);
        fault("value 1sex;", 1, 7);
        fault("value 1\t;", 1, 7);
        fault("value $;", 1, 6);
        fault("many 1;;", 1, 7);
        for (String letter : new String[] {"a", "z", "A", "Z"}) {
            fault("value wit" + letter + ";", 1, 6);
            fault("value " + letter + letter + ";", 1, 6);
        }
        for (String other : new String[] {"@", "[", "`", "{", ":", ",", "\u0000", "\u00ff", "\r"}) {
            fault("value wit" + other + ";", 1, 9);
        }
        fault("value 1;$ many 15;", 1, 8);
    }

    private static void deals() {
        promise = 12;
        MorningCoin x = Edges.four();
        Edges.read(x, "many 2;");
        due("how many", x.deals(0, NONE), 6);
        int[] all = {3, 5, 6, 9, 10, 12};
        for (int i = 0; i < 6; i++) due("deal " + i, x.deals(0, i), all[i]);
        due("deal 6", x.deals(0, 6), NONE);
        due("deal -2", x.deals(0, -2), NONE);
        due("text 1", x.deals(1, NONE), NONE);
        due("text -1", x.deals(-1, NONE), NONE);
        Edges.read(x, "near 0;");
        due("near 0", x.deals(1, NONE), 2);
        due("near 0, first", x.deals(1, 0), 0b0110);
        Edges.read(x, "near 20;many 2;");
        due("near 20", x.deals(2, NONE), 4);
        Edges.read(x, "together home=homeb;apart wit+30=witb;");
        due("bound", x.deals(3, NONE), 2);
        due("bound, first", x.deals(3, 0), 0b0011);
        due("bound, second", x.deals(3, 1), 0b1100);
        Edges.read(x, "over wit>20;many 3;over sex=1;");
        due("over", x.deals(4, NONE), 4);
        int[] over = {3, 3, 1, 2};
        for (int i = 0; i < 4; i++) due("over " + i, x.deals(4, i), over[i]);
        Edges.read(x, "many 5;");
        due("too many", x.deals(5, NONE), 0);
        due("too many, first", x.deals(5, 0), NONE);
        x.child(0, 99, 5, false, false);
        due("with a fifth", x.deals(5, 0), 31);
        due("with a fifth, all of two", x.deals(0, NONE), 10);
        x = new MorningCoin();
        x.text();
        due("of nobody", x.deals(0, NONE), 1);
        due("of nobody, first", x.deals(0, 0), 0);
        for (int i = 0; i < 14; i++) x.child(i & 1, i, i % 10, false, false);
        due("of fourteen", x.deals(0, NONE), 16384);
        due("of fourteen, last", x.deals(0, 16383), 16383);
    }

    private static void formulas() {
        promise = 12;
        so("1000000<1", false);
        so("9999*9999=1000*1000", true);
        so("9999*9999+1=1000*1000", true);
        so("-9999*9999=0-1000*1000", true);
        so("0-9999*9999-1=0-1000*1000", true);
        so("9999*9999*9999/1000=1000", true);
        so("7/2=3", true);
        so("-7/2=-3", true);
        so("7/0=0", true);
        so("7/0*0#0", false);
        so("10-3-2=5", true);
        so("100/10/5=2", true);
        so("100/10*5=50", true);
        so("2+3*4=14", true);
        so("(2+3)*4=20", true);
        so("-2*3=-6", true);
        so("--2=2", true);
        so("1<1 or 1<=1 and 1>=1", true);
        so("1=1 or 1=1 and 1=2", true);
        so("not 1=1 or 1=1", true);
        so("not 1=1 and 1=2", false);
        so("not not 1=1", true);
        so("1#2 and 2>1", true);
        so("1>1 or 2<2", false);
        so("wit=7 and sex=1 and home=3 and works=1", true);
        so("works=0", false);
        so("1=2 or 1=1 and " + "1+2*(".repeat(8) + "1+2*3" + ")".repeat(8) + "=2047", true);
        so("not not " + "1-2*(".repeat(5) + "1-2*-3" + ")".repeat(5) + "=-213", true);
        so("-(1)*-(2)+-(-(3))=5 and -(2)-1=-3", true);
    }

    /** An over clause, of a child of wit 7, is so or not. */
    private static void so(String either, boolean is) {
        MorningCoin x = new MorningCoin();
        x.child(1, 7, 3, true, false);
        String s = either.startsWith("1000000") ? "9999*9999<1" : either;
        due("text of " + s, Edges.read(x, "many 1;over " + s + ";"), 0);
        due(s, x.deals(0, 0), is ? 0 : 1);
    }

    private static void odds() {
        promise = 13;
        MorningCoin x = Edges.four();
        Edges.read(x, "many 2;");
        due("as far", x.odds(0, 0, 0), 1);
        due("thousandths", x.odds(0, 0, 1), 166);
        due("t 166", x.odds(0, 0, 1166), 0);
        due("t 167", x.odds(0, 0, 1167), 1);
        due("t 1", x.odds(0, 0, 1001), 0);
        due("t 1000", x.odds(0, 0, 2000), 1);
        for (int what : new int[] {-1, 2, 999, 1000, 2001}) due("what " + what, x.odds(0, 0, what), NONE);
        due("text 1", x.odds(1, 0, 0), NONE);
        due("thing 1", x.odds(0, 1, 0), NONE);
        due("thing -1", x.odds(0, -1, 0), NONE);
        x.had(2, false);
        x.had(3, true);
        due("as great or greater", x.odds(0, 0, 0), 2);
        Edges.read(x, "many 4;");
        due("no deal has D", x.odds(1, 0, 0), 0);
        due("it stands", x.odds(1, 0, 1001), 1);
        Edges.read(x, "many 5;");
        due("no deals", x.odds(2, 0, 0), NONE);
        due("no deals, t", x.odds(2, 0, 2000), NONE);
        Edges.read(x, "over sex=1;many 2;");
        x.had(3, false);
        due("really, nobody is over", x.odds(3, 0, 0), 2);
        x.had(0, false);
        due("nobody had", x.odds(0, 0, 0), NONE);
        x = Edges.four();
        Edges.read(x, "many 2;");
        x.thing(0, 0, true, 0);
        Edges.answers(x, 1, 8, 2, 6, 4);
        due("less is better", x.odds(0, 1, 0), 6);
    }

    private static void paid() {
        promise = 14;
        MorningCoin x = Edges.four();
        for (int i = 1; i < 4; i++) x.thing(0, 0, i == 2, 0);
        Edges.answers(x, 1, 8, 2, 6, 4);
        Edges.answers(x, 2, 8, 2, 6, 4);
        Edges.read(x, "many 2;");
        due("both of two", x.paid(0, 0b0011, 334), 0b0011);
        due("the first isn't, so the second neither", x.paid(0, 0b0011, 333), 0);
        due("one alone", x.paid(0, 0b0010, 167), 0b0010);
        due("of three", x.paid(0, 0b0111, 500), 0b0011);
        due("of three, less", x.paid(0, 0b0111, 499), 0);
        due("all", x.paid(0, 0b0111, 1000), 0b0111);
        due("without odds aside", x.paid(0, 0b1011, 334), 0b0011);
        due("those alone", x.paid(0, 0b1000, 334), 0);
        due("nothing", x.paid(0, 0, 334), 0);
        due("thing 4", x.paid(0, 16, 334), NONE);
        due("below 0", x.paid(0, -1, 334), NONE);
        due("t 0", x.paid(0, 1, 0), NONE);
        due("t 1001", x.paid(0, 1, 1001), NONE);
        due("text 1", x.paid(1, 1, 1), NONE);
        Edges.answers(x, 0, 6, 2, 8, 9);
        due("ordered by as far", x.paid(0, 0b0011, 334), 0b0010);
    }

    private static void few() {
        promise = 15;
        MorningCoin x = Edges.four();
        Edges.read(x, "many 2;");
        due("one", x.few(0, 0, 200, 0), 1);
        due("the lowest", x.few(0, 0, 200, 1), 0);
        due("no second", x.few(0, 0, 200, 2), NONE);
        due("none", x.few(0, 0, 166, 0), 0);
        due("none, lowest", x.few(0, 0, 166, 1), NONE);
        due("none, second", x.few(0, 0, 166, 2), NONE);
        due("none makes it", x.few(0, 0, 1000, 0), 2);
        due("two that leave no D", x.few(0, 0, 1000, 1), 0);
        due("two that leave no D, second", x.few(0, 0, 1000, 2), 2);
        for (int what : new int[] {-1, 3}) due("what " + what, x.few(0, 0, 200, what), NONE);
        due("t 0", x.few(0, 0, 0, 0), NONE);
        due("t 1001", x.few(0, 0, 1001, 0), NONE);
        due("thing 1", x.few(0, 1, 200, 0), NONE);
        due("text 1", x.few(1, 0, 200, 0), NONE);
        x.thing(0, 0, false, 0);
        due("no odds", x.few(0, 1, 200, 0), NONE);
        x = new MorningCoin();
        for (int i = 0; i < 6; i++) x.child(0, 0, 0, false, i < 3);
        x.thing(0, 0, false, 0);
        Edges.answers(x, 0, 5, 5, 5, 1, 1, 1);
        x.text();
        due("more than two", x.few(0, 0, 1000, 0), NONE);
        due("more than two, lowest", x.few(0, 0, 1000, 1), NONE);
    }

    private static void changed() {
        promise = 16;
        MorningCoin x = Edges.four();
        Edges.read(x, "many 2;");
        due("nobody, least", x.changed(0, 0, false), 1);
        due("nobody, greatest", x.changed(0, 0, true), 1);
        x.had(1, true);
        due("one, least", x.changed(0, 0, false), 1);
        due("one, greatest", x.changed(0, 0, true), 2);
        due("text 1", x.changed(1, 0, true), NONE);
        due("thing 1", x.changed(0, 1, true), NONE);
        x.had(1, false);
        x.answer(0, 0, NONE);
        x.answer(0, 2, NONE);
        due("no odds at all", x.changed(0, 0, true), NONE);
        x.had(1, true);
        due("sets with odds alone", x.changed(0, 0, false), 4);
        x = new MorningCoin();
        for (int i = 0; i < 6; i++) x.child(0, 0, 0, false, i < 1);
        x.thing(0, 0, false, 0);
        Edges.answers(x, 0, 6, 5, 4, 3, 2, 1);
        Edges.read(x, "many 1;");
        for (int i = 1; i < 6; i++) x.had(i, true);
        due("four are taken, least", x.changed(0, 0, false), 2);
        due("four are taken, greatest", x.changed(0, 0, true), 5);
    }

    private static void lost() {
        promise = 17;
        MorningCoin x = Edges.four();
        due("all found", x.lost(0, true), 4000);
        x.answer(0, 3, NONE);
        due("least", x.lost(0, false), 7000 - (2000 + 99000) / 2);
        due("greatest", x.lost(0, true), 7000 - 1000);
        x.answer(0, 0, NONE);
        due("least of two", x.lost(0, false), 3000 - 50500);
        due("greatest of two", x.lost(0, true), (99 + 6) * 500 - 1000);
        int less = x.thing(0, 0, true, 0);
        Edges.answers(x, less, 8, 2, 6, NONE);
        due("less, least", x.lost(less, false), -6000);
        due("less, greatest", x.lost(less, true), 43500);
        due("thing 2", x.lost(2, true), NO_D);
        due("thing -1", x.lost(-1, true), NO_D);
        x.had(1, true);
        x.had(3, true);
        due("all are had", x.lost(0, true), NO_D);
        for (int i = 0; i < 4; i++) x.had(i, false);
        due("nobody is had", x.lost(0, true), NO_D);
        x.had(0, true);
        due("cut", x.lost(less, true), (-8 * 3 + 2 + 6 + 99) * 1000 / 3);
    }

    private static void costs() {
        promise = 18;
        MorningCoin x = Edges.four();
        due("cost at first", x.back(1, 0), 40);
        due("costs(1)", x.costs(1), true);
        due("by 1", x.back(1, 0), 40000);
        due("costs(9999)", x.costs(9999), true);
        due("by 9999", x.back(1, 0), 4);
        due("costs(0)", x.costs(0), false);
        due("costs(10000)", x.costs(10000), false);
        due("costs(-5)", x.costs(-5), false);
        due("it stays", x.about(5), 9999);
    }

    private static void back() {
        promise = 19;
        MorningCoin x = Edges.four();
        x.thing(0, 0, true, 999);
        Edges.answers(x, 1, 0, 1, 0, 1);
        x.thing(0, 0, false, 50);
        x.thing(0, 0, false, 20);
        Edges.answers(x, 3, 2, 0, 2, 0);
        due("one", x.back(1, 0), 40);
        due("two", x.back(3, 0), 40 + 999);
        due("one without D", x.back(7, 0), 40 + 999);
        due("most", x.back(7, 1), 1);
        due("most of like ones", x.back(9, 1), 0);
        Edges.answers(x, 3, 0, 1, 0, 0);
        x.costs(3);
        due("below 0, cut", x.back(8, 0), -20 * 500 / 3);
        due("most below 0", x.back(8, 1), 3);
        due("none has D", x.back(4, 0), NO_D);
        due("none has D, most", x.back(4, 1), NO_D);
        due("no things", x.back(0, 0), NO_D);
        due("thing 4", x.back(17, 0), NO_D);
        due("below 0", x.back(-1, 0), NO_D);
        due("what 2", x.back(1, 2), NO_D);
        due("what -1", x.back(1, -1), NO_D);
        x = new MorningCoin();
        for (int i = 0; i < 2; i++) x.child(0, 0, 0, false, i == 0);
        for (int i = 0; i < 12; i++) {
            x.thing(0, 0, false, 999);
            Edges.answers(x, i, 99, 0);
        }
        x.costs(1);
        due("the greatest", x.back(4095, 0), 12 * 999 * 99000);
    }

    private static void course() {
        promise = 20;
        MorningCoin x = Edges.four();
        Edges.read(x, "many 2;");
        for (int age : new int[] {9, 1, 5, 7, 3}) x.thing(1, age, false, 0);
        int[][] all = {{8, 2, 6, 4}, {8, 2, 6, 4}, {2, 8, 4, 6}, {9, 2, 9, 4}};
        for (int i = 0; i < 4; i++) Edges.answers(x, 1 + i, all[i]);
        due("bits", x.course(0, 1, 200, 0), 0b11001);
        due("gone", x.course(0, 1, 200, 1), 1);
        due("again", x.course(0, 1, 200, 2), 3);
        due("bits, t 1000", x.course(0, 1, 1000, 0), 0b11101);
        due("again, t 1000", x.course(0, 1, 1000, 2), 2);
        due("bits, t 1", x.course(0, 1, 1, 0), 0);
        due("gone, t 1", x.course(0, 1, 1, 1), NONE);
        due("of kind 0", x.course(0, 0, 200, 0), 1);
        due("not gone", x.course(0, 0, 200, 1), NONE);
        due("not again", x.course(0, 0, 200, 2), NONE);
        due("of kind 2", x.course(0, 2, 200, 0), 0);
        x.thing(0, 5, false, 0);
        due("of one age by number", x.course(0, 0, 200, 0), 1);
        due("gone at the end", x.course(0, 0, 200, 1), 1);
        due("not again at the end", x.course(0, 0, 200, 2), NONE);
        due("kind 4", x.course(0, 4, 200, 0), NONE);
        due("kind -1", x.course(0, -1, 200, 0), NONE);
        due("t 0", x.course(0, 0, 0, 0), NONE);
        due("t 1001", x.course(0, 0, 1001, 0), NONE);
        due("what 3", x.course(0, 0, 1, 3), NONE);
        due("what -1", x.course(0, 0, 1, -1), NONE);
        due("text 1", x.course(1, 0, 1, 0), NONE);
    }

    private static MorningCoin ages(int... ages) {
        MorningCoin x = new MorningCoin();
        for (int age : ages) x.thing(0, age, false, 0);
        return x;
    }

    private static void link() {
        promise = 21;
        MorningCoin x = ages(5, 3, 9, 5);
        due("a link", x.link(1, 0), 1);
        due("another", x.link(0, 2), 2);
        due("told already", x.link(1, 0), NONE);
        due("to the same", x.link(0, 0), NONE);
        due("to a lesser age", x.link(2, 0), NONE);
        due("to a like age", x.link(0, 3), NONE);
        due("from 4", x.link(4, 0), NONE);
        due("from -1", x.link(-1, 0), NONE);
        due("to 4", x.link(0, 4), NONE);
        due("to -1", x.link(0, -1), NONE);
        due("links", x.about(3), 2);
        x = ages(0, 1, 2, 3, 4, 5, 6);
        int many = 0;
        for (int a = 0; a < 6; a++) {
            for (int b = a + 1; b < 7 && many < 20; b++) due("link " + a + " " + b, x.link(a, b), ++many);
        }
        due("the 21st", x.link(5, 6), NONE);
    }

    private static void ways() {
        promise = 22;
        MorningCoin x = ages(5, 3, 9, 7);
        x.link(1, 0);
        x.link(0, 2);
        x.link(1, 2);
        due("fewest", x.ways(1, 2, 0), 1);
        due("how many", x.ways(1, 2, 1), 2);
        due("no way", x.ways(2, 1, 0), NONE);
        due("no way, how many", x.ways(2, 1, 1), 0);
        due("no way to 3", x.ways(0, 3, 0), NONE);
        due("to itself", x.ways(3, 3, 0), 0);
        due("to itself, one", x.ways(3, 3, 1), 1);
        for (int what : new int[] {-1, 2}) due("what " + what, x.ways(1, 2, what), NONE);
        due("from 4", x.ways(4, 2, 1), NONE);
        due("to -1", x.ways(1, -1, 1), NONE);
        x = ages(9, 8, 7, 6, 5, 4, 3, 2, 1, 0, 50, 60);
        for (int i = 9; i > 0; i--) x.link(i, i - 1);
        for (int i = 9; i > 1; i--) x.link(i, i - 2);
        x.link(0, 10);
        x.link(10, 11);
        due("many ways", x.ways(9, 11, 1), 55);
        due("many ways, fewest", x.ways(9, 11, 0), 7);
    }

    private static void gap() {
        promise = 23;
        MorningCoin x = Edges.four();
        Edges.read(x, "many 2;");
        due("as far", x.gap(0, 0), 4);
        x.answer(0, 3, 6);
        due("farther than none", x.gap(0, 0), 4);
        x.had(3, true);
        due("none really", x.gap(0, 0), NONE);
        due("text 1", x.gap(1, 0), NONE);
        due("thing 1", x.gap(0, 1), NONE);
        due("thing -1", x.gap(0, -1), NONE);
        x = new MorningCoin();
        for (int i = 0; i < 6; i++) x.child(i / 3, 0, 0, false, i % 3 == 0);
        x.thing(0, 0, true, 0);
        Edges.answers(x, 0, 9, 1, 1, 1, 1, 9);
        x.text();
        // The GAP is -8 less 4. By sex 0 D may be -8, 4, 4, -4, -4, 8, by sex 1 4, 4, -8, 8, -4, -4.
        due("of all deals", x.gap(0, 0), 3 + 2 + 2 + 3);
        Edges.read(x, "many 7;");
        due("no deals", x.gap(1, 0), NONE);
        Edges.read(x, "over sex=1;");
        due("all of one sex over", x.gap(2, 0), 0);
    }

    private static void step() {
        promise = 24;
        MorningCoin x = Edges.four();
        due("low above high", x.step(1, 0), NONE);
        due("low -101", x.step(-101, 0), NONE);
        due("high 201", x.step(0, 201), NONE);
        due("at the edges", x.step(-100, 200), 1);
        due("alike", x.step(200, 200), 2);
        for (int i = 3; i <= 8; i++) due("step " + i, x.step(0, i), i);
        due("the 9th", x.step(0, 1), NONE);
        due("steps", x.about(4), 8);
    }

    private static void land() {
        promise = 25;
        MorningCoin x = Edges.four();
        due("no step", x.land(0, true), 4000);
        x.step(50, 100);
        due("least", x.land(0, false), 2000);
        due("greatest", x.land(0, true), 4000);
        x.step(-100, 33);
        due("least of two", x.land(0, false), -4000);
        due("greatest of two", x.land(0, true), 1320);
        x.step(-1, 33);
        due("least of three", x.land(0, false), -1320);
        due("greatest of three", x.land(0, true), 435);
        x.step(1, 1);
        due("cut towards 0", x.land(0, false), -13);
        due("cut towards 0, greatest", x.land(0, true), 4);
        due("thing 1", x.land(1, true), NO_D);
        due("thing -1", x.land(-1, true), NO_D);
        x.had(0, false);
        x.had(2, false);
        due("no D", x.land(0, true), NO_D);
        x = Edges.four();
        Edges.answers(x, 0, 99, 0, 99, 0);
        for (int i = 0; i < 8; i++) x.step(-100, 200);
        due("the greatest", x.land(0, true), 99000 * 256);
        due("the least", x.land(0, false), -99000 * 128);
    }

    private static void live() {
        promise = 26;
        MorningCoin x = Edges.four();
        Edges.read(x, "value wit/10+had*3;found draw<50;");
        due("how many", x.live(0, 0, 1), 2);
        // X is 18, 3083, 11707, 584.
        lived(x, "one law", 4, NONE, 6, NONE);
        due("found again", x.live(0, 0, 1), 2);
        x = Edges.four();
        Edges.read(x, "value draw-age*10;");
        due("all are found", x.live(0, 0, 1), 4);
        lived(x, "draw", 0, 33, 0, 34);
        Edges.read(x, "found draw=18;found wit=40 and sex=1 and home=1 and works=1;value 100+draw;");
        due("either law", x.live(1, 0, 1), 2);
        lived(x, "either law", 99, NONE, NONE, 99);
        Edges.read(x, "found had=1;");
        due("without value", x.live(2, 0, 9999), 2);
        lived(x, "without value", 0, NONE, 0, NONE);
        Edges.read(x, "value draw;");
        x.live(3, 0, 9999);
        lived(x, "the last seed", 4, 27, 86, 74);
        x.live(3, 0, 0);
        due("the first seed", x.answered(0, 0), 11);
        due("seed -1", x.live(3, 0, -1), NONE);
        due("seed 10000", x.live(3, 0, 10000), NONE);
        due("text 4", x.live(4, 0, 1), NONE);
        due("thing 1", x.live(3, 1, 1), NONE);
        due("they stay", x.answered(0, 0), 11);
    }

    private static void lived(MorningCoin x, String what, int... due) {
        for (int i = 0; i < due.length; i++) due(what + ", child " + i, x.answered(0, i), due[i]);
    }

    private static MorningCoin full() {
        MorningCoin x = Edges.four();
        x.thing(1, 9, true, 3);
        x.link(0, 1);
        x.step(0, 1);
        x.costs(77);
        x.had(1, true);
        Edges.read(x, "many 2;");
        return x;
    }

    private static void image() {
        promise = 27;
        MorningCoin x = full();
        due("image", x.image(), 4);
        x.child(0, 0, 0, true, true);
        due("a new image", x.image(), 5);
        x.child(0, 0, 0, true, true);
        due("back to the new one", x.again(), 5);
        due("coins", x.about(8), 0b10101);
    }

    private static void again() {
        promise = 28;
        MorningCoin x = full();
        x.image();
        x.child(0, 0, 0, true, true);
        x.thing(0, 0, false, 0);
        x.answer(2, 4, 5);
        x.answer(0, 4, 5);
        x.answer(0, 0, 1);
        x.answer(1, 0, 1);
        x.had(0, false);
        x.link(2, 0);
        x.step(0, 1);
        x.costs(78);
        Edges.read(x, "many 3;");
        due("deals ahead of going back", x.deals(1, NONE), 10);
        Edges.put(x, "many 15;");
        x.text();
        Edges.put(x, "many 4;");
        due("again", x.again(), 4);
        int[] all = {4, 2, 1, 1, 1, 77, 7, 0b0111, 0b0101};
        for (int i = 0; i < all.length; i++) due("about " + i, x.about(i), all[i]);
        due("the answer is as it was", x.answered(0, 0), 8);
        due("the other isn't found", x.answered(1, 0), NONE);
        due("the fault stays", x.fault(0), 2);
        due("its place too", x.fault(1), 5);
        due("the text is gone", x.deals(1, NONE), NONE);
        due("the tape stays", x.text(), 1);
        due("deals of the new one", x.deals(1, NONE), 1);
        due("a child again", x.child(1, 0, 0, false, false), 4);
        due("its coin", x.about(8), 0b0101);
        due("who are had", x.about(7), 0b0111);
        due("a thing again", x.thing(0, 0, false, 0), 2);
        due("with no answers", x.answered(2, 4), NONE);
        due("by the child neither", x.answered(0, 4), NONE);
        due("the link again", x.link(2, 0), 2);
        due("the image stays", x.again(), 4);
        due("the image stays, things", x.about(1), 2);
    }

    private static void about() {
        promise = 29;
        MorningCoin x = full();
        Edges.put(x, "many");
        int[] all = {4, 2, 1, 1, 1, 77, 4, 0b0111, 0b0101};
        for (int i = 0; i < all.length; i++) due("about " + i, x.about(i), all[i]);
        due("about -1", x.about(-1), NONE);
        due("about 9", x.about(9), NONE);
    }

    public static void main(String[] args) {
        newObject();
        child();
        had();
        thing();
        answer();
        answered();
        difference();
        feed();
        end();
        text();
        grammar();
        fault();
        deals();
        formulas();
        odds();
        paid();
        few();
        changed();
        lost();
        costs();
        back();
        course();
        link();
        ways();
        gap();
        step();
        land();
        live();
        image();
        again();
        about();
        System.out.println(wrong == 0 ? "all promises are kept" : wrong + " answers are not as due");
        if (wrong != 0) System.exit(1);
    }
}
