import java.util.Arrays;
import java.util.List;

/** The edges of TEXTS: bytes, TOKENS, CLAUSES, formulas, FAULTS. */
final class WordEdges extends Edges {
    private static final String[] NAMES =
        {"sex", "wit", "home", "works", "sexb", "witb", "homeb", "worksb", "had", "age", "draw"};
    private static final String[] CLAUSES = {"many", "near", "value", "together", "apart", "over", "found"};
    private static final String[] SIGNS =
        {"<=", ">=", "<", ">", "=", "#", "+", "-", "*", "/", "(", ")", ";"};
    private static final String[] ASKED = {"<=", ">=", "<", ">", "=", "#"};
    private static final String[] RECKONED = {"+", "-", "*", "/"};

    WordEdges(Sheet sheet) {
        super(sheet);
    }

    void all() {
        under("Terms");
        texts();
        blanks();
        letters();
        digits();
        signs();
        bytes();
        clauses();
        onceEach();
        whereTokensStand();
        binding();
        names();
        namesOfChildren();
        namesOfLives();
        fromTheLeft();
        dividing();
        bounds();
        bothSides();
        firstFault();
        places();
        leastFault();
        faultStands();
        faultNumber();
        faultOpen();
        faultTwice();
        faultName();
        faultClauses();
    }

    /** A text on a new object has a FAULT at a place, or (0) none. */
    private void fault(String text, int what, int place) {
        MorningCoin x = new MorningCoin();
        String name = text.length() > 60 ? text.length() + " bytes that end " + text.substring(text.length() - 30) : text;
        due("text of " + name, read(x, text), what == 0 ? 0 : NONE);
        due("its fault, " + name, x.fault(0), what);
        due("its place, " + name, x.fault(1), place);
        due("texts behind " + name, x.about(2), what == 0 ? 1 : 0);
        due("the tape behind " + name, x.about(6), 0);
    }

    private void fine(String text) {
        fault(text, 0, NONE);
    }

    /** An over clause, of a child of SEX 1, WIT 7, HOME 3 who WORKS, is so or not. */
    private void so(String either, boolean is) {
        MorningCoin x = new MorningCoin();
        x.child(1, 7, 3, true, false);
        due("text of " + either, read(x, "many 1;over " + either + ";"), 0);
        due("how many by " + either, x.deals(0, NONE), 1);
        due(either, x.deals(0, 0), is ? 0 : 1);
    }

    private void alike(String one, String other) {
        so(one + "=" + other, true);
        so(one + "#" + other, false);
    }

    private void texts() {
        says("==== II. TEXTS 0 .. 5: of up to 300 bytes.");
        MorningCoin x = children(3, 0);
        for (int i = 0; i < 6; i++) due("text " + i, read(x, "many " + i + ";"), i);
        for (int i = 0; i < 6; i++) due("deals of text " + i, x.deals(i, NONE), new int[] {1, 3, 3, 1, 0, 0}[i]);
        due("a seventh", read(x, "many 1;"), NONE);
        fine("");
        fine(" ");
        fault(";", 1, 0);
        String long_ = " ".repeat(291) + "over 1=1;";
        due("its length", long_.length(), 300);
        fine(long_);
        fault(long_.substring(0, 299), 1, 299);
        x = children(2, 0);
        due("the last bytes are read", read(x, "many 1;" + " ".repeat(284) + "over 1=1;"), 0);
        due("those over by them", x.deals(0, 1), 0);
        fine("value " + "1+".repeat(146) + "1;");
        fine("many 1;" + "value " + "-(1)*".repeat(57) + "1;");
    }

    private void blanks() {
        says("TOKENS, blanks (32, 10) aside:");
        fine(" many  2 ; ");
        fine("\nmany\n\n2\n;\n");
        fine("many2;near3;value4;together1=1;");
        fine("value\n1 +\n2\n* ( 3 ) - - 4 / wit ;");
        fault("ma ny 2;", 1, 0);
        fault("many 1 4;", 1, 7);
        fault("over wi t=1;", 1, 5);
        fault("over 1 2=12;", 1, 7);
        for (int b = 0; b < 33; b++) {
            boolean blank = b == 32 || b == 10;
            fault("many" + (char) b + "2;", blank ? 0 : 1, blank ? NONE : 4);
            fault((char) b + "many 2;", blank ? 0 : 1, blank ? NONE : 0);
            fault("many 2;" + (char) b, blank ? 0 : 1, blank ? NONE : 7);
        }
        for (int b = 127; b < 256; b++) {
            fault("many" + (char) b + "2;", 1, 4);
            fault((char) b + "many 2;", 1, 0);
            fault("many 2;" + (char) b, 1, 7);
        }
        fault("m" + (char) ('a' + 128) + "ny 2;", 1, 0);
        fault("many " + (char) ('2' + 128) + ";", 1, 5);
    }

    private void letters() {
        says("letters a .. z, A .. Z one behind the other (one TOKEN),");
        fault("manynear 2;", 1, 0);
        fault("over notnot 1=1;", 1, 5);
        fault("over sexsex=1;", 1, 5);
        fault("value sexb;", 5, 6);
        fault("value sex b;", 1, 10);
        fault("over 1=1 andnot 1=1;", 1, 9);
        fine("over 1=1and not1=1;");
        for (String more : new String[] {"a", "z", "A", "Z"}) {
            fault("many" + more + " 2;", 1, 0);
            fault(more + "many 2;", 1, 0);
            fault("value wit" + more + ";", 1, 6);
            fault("value wi" + more + ";", 1, 6);
            fault("value 1" + more + ";", 1, 7);
        }
        for (String beside : new String[] {"@", "[", "`", "{", "_"}) {
            fault("many" + beside + " 2;", 1, 4);
            fault("value wit" + beside + ";", 1, 9);
        }
        fault("Many 2;", 1, 0);
        fault("MANY 2;", 1, 0);
        fault("value Wit;", 1, 6);
        fault("over NOT 1=1;", 1, 5);
        fault("value w;", 1, 6);
        fault("value worksbb;", 1, 6);
        fault("m 1;", 1, 0);
    }

    private void digits() {
        says("digits likewise (NUMBERS, 0 .. 9999),");
        fine("value 0;");
        fine("value 9999;");
        fault("value 10000;", 2, 6);
        fine("value 0000000000009999;");
        fault("value 00000000000010000;", 2, 6);
        fine("value " + "0".repeat(293) + ";");
        fault("value " + "9".repeat(293) + ";", 2, 6);
        for (String wraps : new String[] {"65537", "2147483648", "4294967296", "4294967297", "18446744073709551616",
            "18446744073709551617"}) {
            fault("value " + wraps + ";", 2, 6);
            fault("many " + wraps + ";", 2, 5);
        }
        alike("12", "(9+3)");
        alike("0012", "12");
        alike("9999", "(99*101)");
        alike("10*10", "100");
        so("90=9", false);
        fault("value 1/;", 1, 8);
        fault("value 1:;", 1, 7);
        fault("value 1.5;", 1, 7);
        fault("value 1wit;", 1, 7);
        fault("value wit1;", 1, 9);
        fine("many7;");
    }

    private void signs() {
        says("<= >= < > = # + - * / ( ) ; (the longest).");
        int[] sides = {4, 5, 6};
        for (int side : sides) {
            so(side + "<=5", side <= 5);
            so(side + ">=5", side >= 5);
            so(side + "<5", side < 5);
            so(side + ">5", side > 5);
            so(side + "=5", side == 5);
            so(side + "#5", side != 5);
        }
        for (String sign : ASKED) {
            String is = (sign.contains("=") ? "5" : sign.equals("<") ? "4" : "6") + sign + "5";
            so(is, true);
            so("not " + is, false);
            so("not not " + is, true);
            so(is + " and 1=1", true);
            so("1=1 and " + is, true);
            so(is + " and 1=2", false);
            so(is + " or 1=2", true);
        }
        alike("7+2", "9");
        alike("7-2", "5");
        alike("7*2", "14");
        alike("7/2", "3");
        for (String two : new String[] {"< =", "> =", "<\n=", "==", "##", "<>", "><", "=<", "=>", "<<", "#="}) {
            fault("over 1" + two + "1;", 1, 5 + two.length());
        }
        fault("over 1<==1;", 1, 8);
        fault("over 1>==1;", 1, 8);
        fault("over 1<", 1, 7);
        fault("over 1<=", 1, 8);
        fault("over 1>", 1, 7);
        fault("over 1>=", 1, 8);
        fault(" ".repeat(293) + "over 1<", 1, 300);
        fault(" ".repeat(292) + "over 1>=", 1, 300);
    }

    private void bytes() {
        says("1 it can't stand there, or is none.");
        for (int b = 0; b < 256; b++) {
            char sign = (char) b;
            boolean blank = b == 32 || b == 10;
            boolean digit = b >= '0' && b <= '9';
            String behindMany = "many 1" + sign + ";";
            if (digit) fault(behindMany, b < '5' ? 0 : 2, b < '5' ? NONE : 5);
            else fault(behindMany, blank ? 0 : 1, blank ? NONE : b == ';' ? 7 : 6);
            String inSum = "value 1" + sign + "1;";
            if (digit || "+-*/".indexOf(b) >= 0) fine(inSum);
            else fault(inSum, 1, blank || b == ';' ? 8 : 7);
            String inAsk = "over 1" + sign + "1;";
            if ("<>=#".indexOf(b) >= 0) fine(inAsk);
            else fault(inAsk, 1, digit || "+-*/".indexOf(b) >= 0 ? 8 : blank ? 7 : 6);
        }
    }

    private void clauses() {
        says("{CLAUSE}, 10 at most:");
        String seven = "many 1;near 1;value 1;together 1=1;apart 1=1;over 1=1;found 1=1;";
        fine("");
        fine(seven);
        fine(seven + "found 1=1;over 1=1;apart 1=1;");
        fine("together 1=1;".repeat(10));
        fault("over 1=1;".repeat(11), 6, 90);
        MorningCoin x = children(1, 0);
        read(x, "over 1=2;".repeat(9) + "over 1=1;");
        due("the tenth is as the first", x.deals(0, 1), 0);
        read(x, "over 1=2;".repeat(9) + "many 1;");
        due("the tenth many", x.deals(1, NONE), 1);
        read(x, "found 1=2;".repeat(9) + "found 1=1;");
        x.thing(0, 0, false, 0);
        due("the tenth found", x.live(2, 0, 0), 1);
        read(x, "over 1=1;".repeat(9) + "value 9;");
        x.live(3, 0, 0);
        due("the tenth value", x.answered(0, 0), 9);
        x.child(0, 0, 0, false, false);
        read(x, "over 1=2;".repeat(9) + "together 1=1;");
        due("the tenth together", x.deals(4, NONE), 2);
    }

    private void onceEach() {
        says("many NUMBER ; (0 .. 14)");
        for (int n = 0; n < 20; n++) fault("many " + n + ";", n <= 14 ? 0 : 2, n <= 14 ? NONE : 5);
        fine("many 014;");
        fault("many 015;", 2, 5);
        fault("many 10000;", 2, 5);
        says("or near NUMBER ;");
        for (int n : new int[] {0, 14, 15, 99, 9999}) fine("near " + n + ";");
        fault("near 10000;", 2, 5);
        says("or value SUM ; (these three once each),");
        for (String one : new String[] {"many 1;", "near 1;", "value 1;"}) {
            fine(one);
            fault(one + one, 4, one.length());
            fault(one + "over 1=1;" + one, 4, one.length() + 9);
        }
        fine("many 1;near 1;value 1;");
        fine("value 1;near 1;many 1;");
        says("or together EITHER ; or apart EITHER ; or over EITHER ; or found EITHER ;");
        for (String kind : new String[] {"together", "apart", "over", "found"}) {
            fine((kind + " 1=1;").repeat(3));
            fine(kind + " not not 1=1 and 1=1 or not 1=1;");
        }
    }

    /** Each TOKEN there is behind each beginning: it stands there, or it is the FAULT. */
    private void whereTokensStand() {
        says("EITHER: BOTH {or BOTH}. BOTH: ASK {and ASK}. ASK: not ASK, or SUM one of < <= > >= = # (unlike) SUM.");
        List<String> clauses = Arrays.asList(CLAUSES);
        for (String start : new String[] {"", "over 1=1;", "value 1; ", "many 1;near 2; "}) {
            String told = start.startsWith("value") ? "value" : start.startsWith("many") ? "many near" : "";
            tokens(start, clauses, false, told);
        }
        List<String> asks = Arrays.asList("1", "(", "-", "not");
        for (String start : new String[] {"over ", "over not ", "over not not ", "over 1=1 and ", "over 1=1 or ",
            "over 1=1 and not ", "over 1=1;over "}) tokens(start, asks, true, "");
        List<String> signs = Arrays.asList("<=", ">=", "<", ">", "=", "#", "+", "-", "*", "/");
        for (String start : new String[] {"over 1 ", "over not 1 ", "over (1) ", "over -1 ", "over 1+1 ", "over wit ",
            "over 1=1 and 1 ", "over 1=1 or not 1 "}) tokens(start, signs, false, "");
        List<String> behind = Arrays.asList("+", "-", "*", "/", "and", "or", ";");
        for (String start : new String[] {"over 1=1 ", "over not 1=1 ", "over 1=(1) ", "over 1=-1 ", "over 1=1+1 ",
            "over 1=wit ", "over 1=1 and 1=1 ", "over 1=1 or not 1=1 "}) tokens(start, behind, false, "");
        says("SUM: PRODUCT {+ or - PRODUCT}. PRODUCT: ONE {* or / ONE}. ONE: NUMBER, NAME, ( SUM ), - ONE.");
        List<String> ones = Arrays.asList("1", "(", "-");
        for (String start : new String[] {"value ", "value 1+ ", "value 1- ", "value 1* ", "value 1/ ", "value (",
            "value - ", "value ((", "value 1*-"}) tokens(start, ones, true, "");
        for (String start : new String[] {"over 1= ", "over ( ", "over - ", "over 1=1+ ", "over not ( ", "over not - ",
            "over 1# ", "over 1=( "}) tokens(start, ones, true, "");
        for (String start : new String[] {"value 1 ", "value wit ", "value (1) ", "value -1 ", "value 1*1 "}) {
            tokens(start, Arrays.asList("+", "-", "*", "/", ";"), false, "");
        }
        for (String start : new String[] {"value (1 ", "value ((1) ", "value (-1 ", "over (1 ", "over 1=(wit ",
            "over not (1*1 ", "value -(1 "}) tokens(start, Arrays.asList("+", "-", "*", "/", ")"), false, "");
        for (String start : new String[] {"many ", "near "}) tokens(start, Arrays.asList("1"), false, "");
        for (String start : new String[] {"many 1 ", "near 9999 "}) tokens(start, Arrays.asList(";"), false, "");
    }

    private void tokens(String start, List<String> standing, boolean names, String told) {
        int at = start.length();
        for (String[] some : new String[][] {CLAUSES, SIGNS, {"1", "and", "or", "not", "foo", "$", "!", "Over"}}) {
            for (String token : some) {
                boolean again = standing.contains(token) && (" " + told + " ").contains(" " + token + " ");
                if (again) fault(start + token, 4, at);
                else if (standing.contains(token)) cutOff(start, token);
                else fault(start + token, 1, at);
            }
        }
        for (String name : NAMES) {
            if (!names) fault(start + name, 1, at);
            else if (hasName(start, name)) cutOff(start, name);
            else fault(start + name, 5, at);
        }
        fault(start + "10000", standing.contains("1") ? 2 : 1, at);
        boolean ended = standing.contains("many");
        fault(start, ended ? 0 : 1, ended ? NONE : at);
    }

    /** A TOKEN that may stand: what lacks behind it is the FAULT. */
    private void cutOff(String start, String token) {
        boolean ended = token.equals(";");
        fault(start + token, ended ? 0 : 1, ended ? NONE : start.length() + token.length());
    }

    private static boolean hasName(String start, String name) {
        return hasName(start.startsWith("value"), start.startsWith("together"), name);
    }

    private static boolean hasName(boolean inLife, boolean inPair, String name) {
        int i = Arrays.asList(NAMES).indexOf(name);
        return i < 4 || inPair && i < 8 || inLife && i >= 8;
    }

    private void binding() {
        so("1=1 or 1=1 and 1=2", true);
        so("1=2 and 1=1 or 1=1", true);
        so("1=2 and (1)=1", false);
        so("not 1=1 or 1=1", true);
        so("not 1=1 and 1=2", false);
        so("not 1=2 and 1=2", false);
        so("not not 1=1", true);
        so("not not not 1=1", false);
        alike("2+3*4", "14");
        alike("(2+3)*4", "20");
        alike("20-6/2", "17");
        alike("-2*3+10", "4");
        alike("-2-3", "(0-5)");
        alike("--2", "2");
        alike("---2", "(0-2)");
        alike("-(2+3)", "(0-5)");
        alike("10--2", "12");
        alike("10*-2", "(0-20)");
        alike("10/-2", "(0-5)");
    }

    private void names() {
        says("NAMES: sex, wit, home, works (1, 0) of a CHILD;");
        MorningCoin x = new MorningCoin();
        x.child(0, 0, 0, false, false);
        x.child(1, 99, 9, true, true);
        x.thing(0, 0, false, 0);
        int[][] due = {{0, 1}, {0, 99}, {0, 9}, {0, 1}};
        for (int i = 0; i < 4; i++) {
            read(x, "value " + NAMES[i] + ";");
            x.live(i, 0, 0);
            for (int c = 0; c < 2; c++) due(NAMES[i] + " of child " + c, x.answered(0, c), due[i][c]);
        }
        so("sex=1 and wit=7 and home=3 and works=1", true);
    }

    private void namesOfChildren() {
        says("in together and apart these of the one of lower number, and sexb, witb, homeb, worksb of the other;");
        String[] lower = {"sex=0", "wit=1", "home=2", "works=0"};
        String[] other = {"sexb=1", "witb=99", "homeb=9", "worksb=1"};
        String[] turned = {"sex=1", "wit=99", "home=9", "works=1", "sexb=0", "witb=1", "homeb=2", "worksb=0"};
        for (String kind : new String[] {"together", "apart"}) {
            for (int i = 0; i < 4; i++) {
                pair(kind + " " + lower[i] + ";", 2);
                pair(kind + " " + other[i] + ";", 2);
                pair(kind + " " + lower[i] + " and " + other[i] + ";", 2);
                pair(kind + " " + NAMES[i] + "<" + NAMES[i + 4] + ";", 2);
                pair(kind + " " + NAMES[i] + ">" + NAMES[i + 4] + ";", 4);
            }
            for (String wrong : turned) pair(kind + " " + wrong + ";", 4);
        }
    }

    private void pair(String text, int deals) {
        MorningCoin x = new MorningCoin();
        x.child(0, 1, 2, false, false);
        x.child(1, 99, 9, true, false);
        read(x, text);
        due("deals by " + text, x.deals(0, NONE), deals);
    }

    private void namesOfLives() {
        says("in value and found also had (1, 0), age (of the THING), draw.");
        MorningCoin x = new MorningCoin();
        x.child(0, 0, 0, false, false);
        x.child(0, 0, 0, false, true);
        x.child(0, 0, 0, false, true);
        x.had(2, false);
        x.thing(0, 0, false, 0);
        x.thing(0, 99, false, 0);
        read(x, "value had;");
        x.live(0, 0, 0);
        for (int c = 0; c < 3; c++) due("had of " + c, x.answered(0, c), c == 1 ? 1 : 0);
        read(x, "value age;");
        x.live(1, 0, 0);
        x.live(1, 1, 0);
        for (int t = 0; t < 2; t++) due("age of " + t, x.answered(t, 2), t * 99);
        read(x, "found had=1;");
        due("found by had", x.live(2, 0, 0), 1);
        read(x, "found age=99;");
        due("found by age", x.live(3, 0, 0), 0);
        due("found by age of the other", x.live(3, 1, 0), 3);
        read(x, "found draw=11 or draw=86 or draw=2;");
        due("found by draw", x.live(4, 0, 0), 2);
    }

    private void fromTheLeft() {
        says("From the left;");
        alike("10-3-2", "5");
        alike("10-3+2", "9");
        alike("100/10/5", "2");
        alike("100/10*5", "50");
        alike("7*3/2", "10");
        alike("7/2*3", "9");
        alike("1000*1000+1-1", "999*1001");
        alike("1-1+1000*1000", "1000*1000");
    }

    private void dividing() {
        says("/ cuts towards 0, by 0 it is 0;");
        alike("7/2", "3");
        alike("-7/2", "-3");
        alike("7/-2", "-3");
        alike("-7/-2", "3");
        alike("(0-7)/2", "(0-3)");
        alike("1/2", "0");
        alike("-1/2", "0");
        alike("6/3", "2");
        alike("-6/3", "-2");
        alike("5/0", "0");
        alike("-5/0", "0");
        alike("0/0", "0");
        alike("5/(wit-7)", "0");
        alike("1000*1000/0", "0");
        alike("0/5", "0");
    }

    private void bounds() {
        says("what is above 1000000 (below the same less) is that, at each step.");
        String most = "1000*1000";
        String least = "(0-1000*1000)";
        alike("999*1001", most + "-1");
        so("999*1001<" + most, true);
        alike("999*1001+1", most);
        alike("999*1001+2", most);
        alike(most + "+1", most);
        alike("1001*1000", most);
        alike("9999*9999", most);
        alike("9999*9999*9999*9999", most);
        alike("9999*9999-1", "999*1001");
        alike(most + "+1-1", "999*1001");
        alike(most + "+" + most, most);
        alike("9999*9999/9999", "100");
        alike("-999*1001", least + "+1");
        so("-999*1001>" + least, true);
        alike("-999*1001-1", least);
        alike("-999*1001-2", least);
        alike(least + "-1", least);
        alike("-9999*9999", least);
        alike("9999*-9999", least);
        alike("-9999*-9999", most);
        alike(least + "-1+1", "-999*1001");
        alike(least + "-" + most, least);
        alike("-" + least, most);
        alike("-(" + most + ")", least);
        alike("(9999*9999+1)*(9999*9999+1)", most);
        alike(least + "*" + least, most);
        alike(least + "/-1", most);
    }

    private void bothSides() {
        says("or and and look at both sides always.");
        so("1=1 or 5/0=1", true);
        so("5/0=1 or 1=1", true);
        so("1=2 and 5/0=1", false);
        so("5/0=1 and 1=1", false);
        for (int i = 0; i < 4; i++) {
            String one = i / 2 + "=1";
            String two = i % 2 + "=1";
            so(one + " and " + two, i == 3);
            so(one + " or " + two, i != 0);
        }
    }

    private void firstFault() {
        says("FAULTS, the first as TOKENS are come to,");
        fault("many 15; near 10000;", 2, 5);
        fault("near 10000; many 15;", 2, 5);
        fault("over sexb=10000;", 5, 5);
        fault("over 10000=sexb;", 2, 5);
        fault("many 1;many 1;$", 4, 7);
        fault("$many 1;many 1;", 1, 0);
        fault("value ((((((((10000(", 2, 14);
        fault("value (((((((((10000", 3, 14);
        fault("over 1=1;".repeat(9) + "over had=1;over 1=1;", 5, 86);
        fault("over 1=1;".repeat(10) + "over had=1;", 6, 90);
        fault("value 1 1 sexb;", 1, 8);
    }

    private void places() {
        says("at the TOKEN's first byte (of the end at the length),");
        fault("   foo;", 1, 3);
        fault("value   \n  foofoofoo;", 1, 11);
        fault("value 1+\n0010000;", 2, 9);
        fault("value 1 <= 1;", 1, 8);
        fault("value   worksb;", 5, 8);
        fault("$", 1, 0);
        fault(" ".repeat(299) + "$", 1, 299);
        fault("m", 1, 0);
        fault("many", 1, 4);
        fault("many  \n", 1, 7);
        fault("many 1", 1, 6);
        fault("many 1 ", 1, 7);
        fault("value (1", 1, 8);
        fault("over 1=1 and", 1, 12);
        fault("many 1;near", 1, 11);
        fault(" ".repeat(296) + "many", 1, 300);
        fault("many" + " ".repeat(296), 1, 300);
        fault(" ".repeat(294) + "many 1", 1, 300);
        fault(" ".repeat(294) + "many15", 2, 298);
    }

    private void leastFault() {
        says("of one the least:");
        fault("value 1 10000;", 1, 8);
        fault("many 1 15;", 1, 7);
        fault("10000;", 1, 0);
        fault("many sexb;", 1, 5);
        fault("over 1 had=1;", 1, 7);
        fault("value 1*2 witb;", 1, 10);
        fault("over 1=1 sexb;", 1, 9);
        fault("many 1;over 1=1 many 1;", 1, 16);
        fault("many 1 many 1;", 1, 7);
        fault("many many 1;", 1, 5);
        fault("value ((((((((not 1;", 1, 14);
        fault("over not not not not not not not not 1 not", 1, 39);
        fault("value ((((((((1(", 1, 15);
        fault("value ((((((((1 not", 1, 16);
        fault("over 1=1;".repeat(10) + "foo", 1, 90);
        fault("over 1=1;".repeat(10) + "1", 1, 90);
        fault("over 1=1;".repeat(10) + ";", 1, 90);
        fault("over 1=1;".repeat(10) + "sexb", 1, 90);
        fault("over 1=1;".repeat(10) + "10000", 1, 90);
        fault("many 1;" + "over 1=1;".repeat(9) + "many 1;", 4, 88);
        fault("near 1;" + "over 1=1;".repeat(9) + "near 1;", 4, 88);
        fault("value 1;" + "over 1=1;".repeat(9) + "value 1;", 4, 89);
    }

    private void faultStands() {
        says("1 it can't stand there, or is none.");
        fault("value ();", 1, 7);
        fault("value (1 1);", 1, 9);
        fault("value 1);", 1, 7);
        fault("value (1));", 1, 9);
        fault("value (1=1);", 1, 8);
        fault("over (1=1);", 1, 7);
        fault("over (not 1=1);", 1, 6);
        fault("over (1)=1);", 1, 10);
        fault("over 1=1=1;", 1, 8);
        fault("over 1<2<3;", 1, 8);
        fault("over 1=not 1;", 1, 7);
        fault("over 1+not 1=1;", 1, 7);
        fault("over 1 and 1=1;", 1, 7);
        fault("over 1=1 and;", 1, 12);
        fault("over 1=1 and or 1=1;", 1, 13);
        fault("over and 1=1;", 1, 5);
        fault("over;", 1, 4);
        fault("value;", 1, 5);
        fault("many;", 1, 4);
        fault("many -1;", 1, 5);
        fault("many (1);", 1, 5);
        fault("many 1+1;", 1, 6);
        fault("value 1 and 1;", 1, 8);
        fault("value +1;", 1, 6);
        fault("many 1;;", 1, 7);
        fault("bytes 1;", 1, 0);
    }

    private void faultNumber() {
        says("2 a NUMBER that isn't one of those told.");
        fine("many 14;");
        fault("many 15;", 2, 5);
        fault("many 9999;", 2, 5);
        fine("near 9999;");
        fault("near 10000;", 2, 5);
        fine("over wit=9999;");
        fault("over wit=10000;", 2, 9);
        fault("over 10000=wit;", 2, 5);
        fault("value -10000;", 2, 7);
        fault("value (1*(10000));", 2, 10);
        fault("found 1=1 or not 10000=1;", 2, 17);
        fault("together 99999=1;", 2, 9);
        fault("apart 99999=1;", 2, 6);
    }

    private void faultOpen() {
        says("3 the 9th of ( not and - (of one ONE) that are open around one another (at it).");
        eightOpen();
        fault("value (((((((((1)))))))));", 3, 14);
        fault("value ---------1;", 3, 14);
        fault("over not not not not not not not not not 1=1;", 3, 37);
        fault("over not not not not not not not not (1)=1;", 3, 37);
        fault("over not not not not not not not not -1=1;", 3, 37);
        fault("over not not not not not not not not 1=(1);", 3, 39);
        fault("over not not not not not not not not 1=-1;", 3, 39);
        fault("over not not not not not not not not 1=1*-1;", 3, 41);
        fault("value -((((((((1))))))));", 3, 14);
        fault("value ((((((((-1))))))));", 3, 14);
        fault("value -(-(-(-(-1))));", 3, 14);
        fault("value ((((((((1)+(1))+(1))+(1))+(1))+(1))+(1))+((1)));", 0, NONE);
        fault("value ((((((((1)+((1)))))))));", 3, 18);
        fault("value 1+(((((((((", 3, 16);
        fault("over 1=1 and 1=(((((((((1", 3, 23);
        fault("over not not not not 1=1+((((1)+(-1))));", 3, 33);
        fault("value -1*((((((((-", 3, 17);
        fault("value (1)*((((((((-", 3, 18);
        fault("value " + "(".repeat(294), 3, 14);
        fault("value " + "-".repeat(294), 3, 14);
        fault("over " + "not ".repeat(73), 3, 37);
        fault("value 1;over 1=1;value", 4, 17);
    }

    private void eightOpen() {
        fine("value ((((((((1))))))));");
        fine("value --------1;");
        fine("over not not not not not not not not 1=1;");
        fine("over not not not not 1=((((1))));");
        fine("over not not not not ----1=----1;");
        fine("over not not not not 1=1 and 1=((((((((1))))))));");
        fine("over not not not not not not not not 1=1 and --------1=((((((((1))))))));");
        fine("over not not not not not not not not 1=1 or not not not not not not not not 1=1;");
        fine("value -(((((((1)))))));");
        fine("value -1*((((((((1))))))));");
        fine("value -(1)*((((((((1))))))));");
        fine("value -(-(-(-(1))))*-(-(-(-(1))));");
        fine("value ((((((((1))))))))+((((((((1))))))));");
        fine("value --------1---------1*--------1;");
        fine("value (((((((-1*-1*-1+-1)))))));");
        fine("over ((((((((1))))))))=((((((((1))))))));");
        fine("over --------1=--------1;over --------1=--------1;");
        fine("value " + "(1)+".repeat(20) + "1;");
        fine("value " + "1-".repeat(60) + "1;");
        fine("value " + "-1-".repeat(60) + "1;");
        fine("over " + "not 1=1 and ".repeat(20) + "1=1;");
        alike("--------1", "1");
        alike("-(-(-(-(1))))*-(-(-(-(3))))", "3");
        so("not not not not not not not not 1=1 and not not not not not not not not 1=1", true);
        alike("1+2*(".repeat(8) + "1+2*3" + ")".repeat(8), "2047");
    }

    private void faultTwice() {
        says("4 many, near, value for the second time (at it).");
        fault("many 1;many", 4, 7);
        fault("near 1;  near", 4, 9);
        fault("value 1; value", 4, 9);
        fault("many 1;near 1;value 1;many 1;", 4, 22);
        fault("many 1;near 1;value 1;near 1;", 4, 22);
        fault("many 1;near 1;value 1;value 1;", 4, 22);
        fine("over 1=1;over 1=1;together 1=1;together 1=1;apart 1=1;apart 1=1;found 1=1;found 1=1;");
        MorningCoin x = new MorningCoin();
        due("one text", read(x, "many 1;near 1;value 1;"), 0);
        due("the second text is another", read(x, "many 1;near 1;value 1;"), 1);
        due("a text with a FAULT", read(x, "many 1;near 1;value 1;$"), NONE);
        due("its many isn't of the next", read(x, "many 1;near 1;value 1;"), 2);
    }

    private void faultName() {
        says("5 a NAME that isn't of that CLAUSE (at it).");
        for (String kind : new String[] {"value", "together", "apart", "over", "found"}) {
            boolean inLife = kind.equals("value") || kind.equals("found");
            boolean inPair = kind.equals("together") || kind.equals("apart");
            String end = kind.equals("value") ? ";" : "=1;";
            for (String name : NAMES) {
                boolean has = hasName(inLife, inPair, name);
                int at = kind.length() + 1;
                fault(kind + " " + name + end, has ? 0 : 5, has ? NONE : at);
                fault(kind + " 1+" + name + end, has ? 0 : 5, has ? NONE : at + 2);
                fault(kind + " -(" + name + ")" + end, has ? 0 : 5, has ? NONE : at + 2);
            }
        }
        fault("over 1=sexb;", 5, 7);
        fault("over 1=1 or 1=draw;", 5, 14);
        fault("together sexb=1;over sexb=1;", 5, 21);
        fault("value had;over had=1;", 5, 15);
        fault("found age=1;apart age=1;", 5, 18);
    }

    private void faultClauses() {
        says("6 the 11th CLAUSE (at its first TOKEN).");
        String ten = "over 1=1;".repeat(10);
        fine(ten);
        fine(ten + "  ");
        for (String kind : CLAUSES) {
            fault(ten + kind, 6, 90);
            fault(ten + "\n  " + kind + " foo", 6, 93);
        }
        fault("many 1;near 1;value 1;together 1=1;apart 1=1;found 1=1;over 1=1;over 1=1;over 1=1;over 1=1;over 1=1;", 6, 91);
        for (String word : new String[] {"and", "or", "not", "sex", "draw"}) fault(ten + word, 1, 90);
        for (String asked : ASKED) fault(ten + asked, 1, 90);
        for (String reckoned : RECKONED) fault(ten + reckoned, 1, 90);
    }
}
