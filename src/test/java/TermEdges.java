/** The edges of the terms but for TEXTS: D, DEALS, ODDS and what follows from them. */
final class TermEdges extends Edges {
    TermEdges(Sheet sheet) {
        super(sheet);
    }

    void all() {
        under("What it is");
        calls();
        under("Terms");
        childrenTold();
        thingsTold();
        answersTold();
        differences();
        noDifference();
        thousandths();
        many();
        near();
        together();
        apart();
        overs();
        asFar();
        noOdds();
        stands();
        paid();
        few();
        changed();
        lost();
        back();
        course();
        links();
        ways();
        gap();
        land();
        lived();
        draws();
        image();
        constants();
    }

    private void calls() {
        says("An object is used for at most 512 calls after it has been made; what later calls answer is free.");
        MorningCoin x = four();
        for (int i = 9; i < 510; i++) x.costs(1 + i);
        due("the 511th call", x.about(5), 510);
        due("the 512th call", x.difference(0, 2, 2), 4000);
        x = children(14, 127);
        for (int i = 0; i < 14; i++) x.deals(read(x, "many 7;"), i);
        for (int i = 100; i < 511; i++) x.image();
        due("the 512th call of another", x.deals(5, 3431), 127 << 7);
    }

    private void childrenTold() {
        says("CHILDREN 0 .. 13 (told one by one): SEX (0, 1), WIT (0 .. 99), HOME (0 .. 9), WORKS, COIN;");
        MorningCoin x = new MorningCoin();
        for (int i = 0; i < 14; i++) due("child " + i, x.child(i & 1, i * 99 / 13, i * 9 / 13, i > 6, i % 4 == 0), i);
        due("a 15th", x.child(0, 0, 0, false, false), NONE);
        due("children", x.about(0), 14);
        says("HAD (at first as COIN; told anew).");
        due("had at first", x.about(7), 0b01000100010001);
        due("coins", x.about(8), 0b01000100010001);
        x.had(13, true);
        x.had(0, false);
        due("had, told anew", x.about(7), 0b11000100010000);
        due("coins stay", x.about(8), 0b01000100010001);
    }

    private void thingsTold() {
        says("THINGS 0 .. 11 (told one by one): KIND (0 .. 3), AGE (0 .. 99), LESS (less is better), PRICE (0 .. 999).");
        MorningCoin x = children(2, 1);
        x.costs(1);
        for (int i = 0; i < 12; i++) {
            due("thing " + i, x.thing(i & 3, i * 9, i % 2 == 1, i == 11 ? 999 : i * 90), i);
            answers(x, i, 2, 1);
        }
        due("a 13th", x.thing(0, 0, false, 0), NONE);
        for (int i = 0; i < 12; i++) due("D of " + i, x.difference(i, 2, 0), i % 2 == 1 ? -1 : 1);
        for (int i = 0; i < 11; i++) due("back of " + i, x.back(1 << i, 0), (i % 2 == 1 ? -1000 : 1000) * i * 90);
        due("back of the last", x.back(1 << 11, 0), -999000);
        x.text();
        for (int kind = 0; kind < 4; kind++) due("course of " + kind, x.course(0, kind, 1000, 0), 7);
    }

    private void answersTold() {
        says("ANSWERS of a THING by CHILDREN: FOUND (0 .. 99), or not (at first).");
        MorningCoin x = children(14, 1);
        for (int i = 0; i < 12; i++) x.thing(0, 0, false, 0);
        for (int t = 0; t < 12; t++) {
            for (int c = 0; c < 14; c++) due("answer at first, " + t + " " + c, x.answered(t, c), NONE);
        }
        x.answer(3, 0, 0);
        x.answer(3, 13, 99);
        x.answer(11, 13, 1);
        for (int t = 0; t < 12; t++) {
            for (int c = 0; c < 14; c += 13) {
                int want = t == 3 ? c == 0 ? 0 : 99 : t == 11 && c == 13 ? 1 : NONE;
                due("answer then, " + t + " " + c, x.answered(t, c), want);
            }
        }
        due("0 is an answer", x.difference(3, 2, 0), -99);
        x.answer(3, 0, NONE);
        due("not found any more", x.difference(3, 2, 0), NO_D);
    }

    private void differences() {
        says("D of a THING by a set of CHILDREN who have it, over some of CHILDREN (all, if nothing else is told):");
        MorningCoin x = four();
        due("over all", x.difference(0, 2, 0), 16);
        due("over some", x.difference(0, 0, 0), 6);
        says("of those FOUND n with ANSWERS s together have it, m with r don't: (s m - r n) / (n m);");
        x = asked(0b00111, 99, 99, 99, 0, 0);
        due("upper", x.difference(0, 2, 0), 297 * 2);
        due("lower", x.difference(0, 2, 1), 6);
        x.answer(0, 2, NONE);
        due("one of those who have it isn't found", x.difference(0, 2, 0), 198 * 2);
        due("lower of two by two", x.difference(0, 2, 1), 4);
        x.answer(0, 4, NONE);
        due("nor one of the others", x.difference(0, 2, 0), 198);
        due("lower of two by one", x.difference(0, 2, 1), 2);
        x = asked(127, 99, 99, 99, 99, 99, 99, 99, 0, 0, 0, 0, 0, 0, 0);
        due("the greatest upper", x.difference(0, 2, 0), 99 * 49);
        due("the greatest lower", x.difference(0, 2, 1), 49);
        says("if LESS, turned about (of 0 less);");
        x = four();
        x.thing(0, 0, true, 0);
        answers(x, 1, 8, 2, 6, 4);
        due("of less", x.difference(1, 2, 0), -16);
        due("of less, lower", x.difference(1, 2, 1), 4);
        due("of less, thousandths", x.difference(1, 2, 2), -4000);
        answers(x, 1, 0, 0, 0, 0);
        due("of less, none better", x.difference(1, 2, 0), 0);
        answers(x, 1, 0, 99, 0, 99);
        due("of less, the best", x.difference(1, 2, 2), 99000);
    }

    private void noDifference() {
        says("none, if n or m is 0. D really: by HAD.");
        due("nobody has it", asked(0, 5, 5).difference(0, 2, 0), NO_D);
        due("all have it", asked(3, 5, 5).difference(0, 2, 0), NO_D);
        due("one child who has it", asked(1, 5).difference(0, 2, 1), NO_D);
        due("one child who doesn't", asked(0, 5).difference(0, 2, 2), NO_D);
        due("no child", asked(0).difference(0, 2, 0), NO_D);
        due("those who have it aren't found", asked(1, NONE, 5).difference(0, 2, 0), NO_D);
        due("the others aren't found", asked(1, 5, NONE).difference(0, 2, 0), NO_D);
        due("none is found", asked(1, NONE, NONE).difference(0, 2, 0), NO_D);
        due("one and one", asked(1, 5, 5).difference(0, 2, 1), 1);
        due("no difference is one", asked(1, 5, 5).difference(0, 2, 0), 0);
        due("no difference in thousandths", asked(1, 5, 5).difference(0, 2, 2), 0);
        MorningCoin x = asked(1, 5, 3);
        x.had(0, false);
        due("by had, not by coin", x.difference(0, 2, 0), NO_D);
        x.had(1, true);
        due("by had, turned", x.difference(0, 2, 0), -2);
    }

    private void thousandths() {
        says("In thousandths: cut towards 0.");
        due("two thirds", asked(7, 1, 1, 0, 0).difference(0, 2, 2), 666);
        due("less two thirds", asked(8, 1, 1, 0, 0).difference(0, 2, 2), -666);
        due("a 13th", asked(1, 1, 0, 0, 0, 0, 0, 0, 0, 0, 0, 0, 0, 0, 0).difference(0, 2, 2), 1000);
        due("less a 13th", asked(2, 1, 0, 0, 0, 0, 0, 0, 0, 0, 0, 0, 0, 0, 0).difference(0, 2, 2), -76);
        due("99", asked(1, 99, 0).difference(0, 2, 2), 99000);
        due("less 99", asked(2, 99, 0).difference(0, 2, 2), -99000);
        MorningCoin x = children(4, 7);
        x.thing(0, 0, true, 0);
        answers(x, 0, 1, 1, 0, 0);
        due("of less", x.difference(0, 2, 2), -666);
    }

    private static MorningCoin wits(String text, int... wits) {
        MorningCoin x = new MorningCoin();
        for (int wit : wits) x.child(0, wit, 0, false, false);
        read(x, text);
        return x;
    }

    private void row(String name, MorningCoin x, int... deals) {
        due(name + ", how many", x.deals(0, NONE), deals.length);
        for (int i = 0; i < deals.length; i++) due(name + ", deal " + i, x.deals(0, i), deals[i]);
        due(name + ", behind the last", x.deals(0, deals.length), NONE);
    }

    private void many() {
        says("DEALS of a TEXT: all sets of CHILDREN (bits) so that: many (if told) are in it;");
        row("nothing told", wits("", 1, 2), 0, 1, 2, 3);
        row("nobody", wits(""), 0);
        row("nobody, none in it", wits("many 0;"), 0);
        row("nobody, one in it", wits("many 1;"));
        row("none in it", wits("many 0;", 1, 2, 3), 0);
        row("one in it", wits("many 1;", 1, 2, 3), 1, 2, 4);
        row("two in it", wits("many 2;", 1, 2, 3), 3, 5, 6);
        row("all in it", wits("many 3;", 1, 2, 3), 7);
        row("more than all", wits("many 4;", 1, 2, 3));
        row("fourteen of three", wits("many 14;", 1, 2, 3));
        int[] of14 = {1, 14, 91, 364, 1001, 2002, 3003, 3432, 3003, 2002, 1001, 364, 91, 14, 1};
        for (int n = 0; n < 15; n++) {
            MorningCoin x = children(14, 0);
            read(x, "many " + n + ";");
            due(n + " of fourteen", x.deals(0, NONE), of14[n]);
            due(n + " of fourteen, first", x.deals(0, 0), (1 << n) - 1);
            due(n + " of fourteen, last", x.deals(0, of14[n] - 1), (1 << n) - 1 << 14 - n);
        }
        MorningCoin x = children(14, 0);
        x.text();
        due("all sets of fourteen", x.deals(0, NONE), 16384);
        for (int i = 0; i < 16384; i += 4681) due("set " + i, x.deals(0, i), i);
        due("no set above", x.deals(0, 16384), NONE);
    }

    private void near() {
        says("|WIT of those in it together less WIT of the others| is near or less (if told);");
        row("near 0", wits("near 0;", 10, 20, 30, 40), 6, 9);
        row("near 19", wits("near 19;", 10, 20, 30, 40), 6, 9);
        row("near 20", wits("near 20;", 10, 20, 30, 40), 5, 6, 7, 8, 9, 10);
        int[] nears = {39, 40, 59, 60, 79, 80, 99, 100, 9999};
        int[] due = {6, 10, 10, 12, 12, 14, 14, 16, 16};
        for (int i = 0; i < nears.length; i++) {
            due("near " + nears[i], wits("near " + nears[i] + ";", 10, 20, 30, 40).deals(0, NONE), due[i]);
        }
        row("near 0, nobody", wits("near 0;"), 0);
        row("near 0, no wit", wits("near 0;", 0, 0), 0, 1, 2, 3);
        row("near 0, one", wits("near 0;", 1));
        row("near 1, one", wits("near 1;", 1), 0, 1);
        row("near and many", wits("many 1;near 0;", 3, 1, 2), 1);
        MorningCoin x = new MorningCoin();
        for (int i = 0; i < 14; i++) x.child(0, 99, 0, false, false);
        read(x, "near 1385;");
        read(x, "near 1386;");
        due("all but two of them", x.deals(0, NONE), 16382);
        due("all of them", x.deals(1, NONE), 16384);
    }

    private void together() {
        says("of each two by which a together clause is so both are in it, or neither;");
        row("two", wits("together 1=1;", 1, 2), 0, 3);
        row("none is so", wits("together 1=2;", 1, 2), 0, 1, 2, 3);
        row("one child", wits("together 1=1;", 1), 0, 1);
        row("no child", wits("together 1=1;"), 0);
        row("from one to the next", wits("together wit+1=witb;", 1, 2, 3), 0, 7);
        row("the lower number has the names", wits("together wit=witb+1;", 1, 2, 3), 0, 1, 2, 3, 4, 5, 6, 7);
        row("either of two clauses", wits("together wit=1 and witb=2;together wit=3 and witb=4;", 1, 2, 3, 4), 0, 3, 12, 15);
        row("the first and the last", wits("together wit=1 and witb=3;", 1, 2, 3), 0, 2, 5, 7);
        MorningCoin x = children(14, 0);
        read(x, "together 1=1;");
        row("fourteen", x, 0, 16383);
    }

    private void apart() {
        says("of each two by which an apart clause is so just one is.");
        row("two", wits("apart 1=1;", 1, 2), 1, 2);
        row("three can't be", wits("apart 1=1;", 1, 2, 3));
        row("one child", wits("apart 1=1;", 1), 0, 1);
        row("no child", wits("apart 1=1;"), 0);
        row("none is so", wits("apart 1=2;", 1, 2), 0, 1, 2, 3);
        row("from one to the next", wits("apart wit+1=witb;", 1, 2, 3), 2, 5);
        row("either of two clauses", wits("apart wit=1 and witb=2;apart wit=3 and witb=4;", 1, 2, 3, 4), 5, 6, 9, 10);
        row("together and apart", wits("together 1=1;apart 1=1;", 1, 2));
        row("together, and apart of others", wits("together witb=2;apart witb=3;", 1, 2, 3), 3, 4);
        MorningCoin x = children(14, 0);
        read(x, "apart 1=1;");
        row("fourteen", x);
    }

    private void overs() {
        says("Rising as numbers. Then of each those by whom an over clause is so are taken out: so it is DEALT.");
        row("one over", wits("over wit=1;", 1, 2), 0, 0, 2, 2);
        row("all over", wits("over 1=1;", 1, 2), 0, 0, 0, 0);
        row("none over", wits("over 1=2;", 1, 2), 0, 1, 2, 3);
        row("either of two clauses", wits("over wit=1;over wit=2;many 2;", 1, 2, 3), 0, 4, 4);
        row("the highest over: not rising any more", wits("over wit=3;", 1, 2, 3), 0, 1, 2, 3, 0, 1, 2, 3);
        row("many ahead of over", wits("many 2;over wit=1;", 1, 2, 3), 2, 4, 6);
        row("near ahead of over", wits("near 0;over wit=3;", 1, 2, 3), 3, 0);
        row("together ahead of over", wits("together 1=1;over wit=1;", 1, 2), 0, 2);
        row("apart ahead of over", wits("apart 1=1;over wit=1;", 1, 2), 0, 2);
        row("nobody over", wits("over 1=1;"), 0);
        lawsOfEachText();
        MorningCoin x = wits("over wit=2;", 1);
        row("ahead of the child", x, 0, 1);
        x.child(0, 2, 0, false, false);
        row("with the child", x, 0, 1, 0, 1);
    }

    /** The DEALS of one TEXT have nothing of those of another, asked by turns. */
    private void lawsOfEachText() {
        String[] laws = {"together 1=1;", "apart 1=1;", "", "over 1=1;", "many 1;", "near 1;"};
        int[] due = {2, 0, 8, 8, 3, 2};
        MorningCoin x = wits(laws[0], 1, 2, 4);
        for (int i = 1; i < 6; i++) read(x, laws[i]);
        for (int i = 0; i < 6; i++) {
            for (int j = 0; j < 6; j++) {
                due("deals of " + laws[i], x.deals(i, NONE), due[i]);
                due("behind it those of " + laws[j], x.deals(j, NONE), due[j]);
                due("the last of " + laws[j], x.deals(j, Math.max(due[j] - 1, 0)), new int[] {7, NONE, 7, 0, 4, 4}[j]);
            }
        }
    }

    private void asFar() {
        says("ODDS of a THING by a TEXT: of all DEALS how many are AS FAR: as DEALT D is as great as D really, or greater.");
        // By pairs D is 0, 4, 2, -2, -4, 0.
        int[] hads = {0b0011, 0b0101, 0b1001, 0b0110, 0b1010, 0b1100};
        int[] due = {4, 1, 2, 5, 6, 4};
        for (int i = 0; i < 6; i++) {
            MorningCoin x = four();
            read(x, "many 2;");
            for (int c = 0; c < 4; c++) x.had(c, (hads[i] >> c & 1) == 1);
            due("as far by " + hads[i], x.odds(0, 0, 0), due[i]);
        }
        MorningCoin x = four();
        x.text();
        // By 1, 5 and 13 D is 4: 12 of 3, 16 of 4 and 12 of 3.
        due("as great by other numbers", x.odds(0, 0, 0), 3);
        x.answer(0, 0, 9);
        due("a little greater really", x.odds(0, 0, 0), 2);
        x.thing(0, 0, true, 0);
        answers(x, 1, 8, 2, 6, 4);
        due("less is better", x.odds(0, 1, 0), 14);
        read(x, "many 2;over sex=0;");
        // Dealt 0, 4, 4, 8, 8, 12: D is none, 4/3, 4/3, -4/3, -4/3, 0.
        answers(x, 0, 8, 2, 6, 4);
        due("as dealt", x.odds(1, 0, 0), 0);
        for (int c = 0; c < 4; c++) x.had(c, c == 2);
        due("as dealt, as far", x.odds(1, 0, 0), 2);
        x = asked(1, 5, 5, 5);
        x.text();
        due("no difference anywhere", x.odds(0, 0, 0), 6);
        x = asked(127, 99, 99, 99, 99, 99, 99, 99, 0, 0, 0, 0, 0, 0, 0);
        read(x, "many 7;");
        due("the greatest of all", x.odds(0, 0, 0), 1);
        due("the greatest of all, in thousandths", x.odds(0, 0, 1), 0);
        x.thing(0, 0, true, 0);
        answers(x, 1, 99, 99, 99, 99, 99, 99, 99, 0, 0, 0, 0, 0, 0, 0);
        due("the least of all", x.odds(0, 1, 0), 3432);
        due("the least of all, in thousandths", x.odds(0, 1, 1), 1000);
    }

    private void noOdds() {
        says("None if D really is none, or there are no DEALS; DEALS by which D is none aren't AS FAR.");
        MorningCoin x = asked(0, 5, 5);
        x.text();
        due("nobody had", x.odds(0, 0, 0), NONE);
        x.had(0, true);
        due("one had", x.odds(0, 0, 0), 2);
        due("of all deals", x.odds(0, 0, 1), 500);
        x.had(1, true);
        due("all had", x.odds(0, 0, 0), NONE);
        x.had(1, false);
        read(x, "many 3;");
        due("no deals", x.odds(1, 0, 0), NONE);
        due("no deals, whether it stands", x.odds(1, 0, 2000), NONE);
        read(x, "many 2;");
        due("D is none by the one deal", x.odds(2, 0, 0), 0);
        read(x, "many 0;");
        due("D is none by nobody", x.odds(3, 0, 0), 0);
        read(x, "over 1=1;");
        due("all are over", x.odds(4, 0, 0), 0);
        x = asked(1, 0, 99, NONE);
        read(x, "many 1;");
        due("by one of three D is none", x.odds(0, 0, 0), 2);
        due("it is a deal even so", x.odds(0, 0, 1), 666);
        x.answer(0, 0, NONE);
        due("one found alone", x.odds(0, 0, 0), NONE);
    }

    private void stands() {
        says("It STANDS by t (1 .. 1000): AS FAR * 1000 is t * DEALS or less (and ODDS aren't none).");
        MorningCoin x = asked(1, 4, 3, 2, 1);
        read(x, "many 1;");
        for (int had = 0; had < 4; had++) {
            for (int c = 0; c < 4; c++) x.had(c, c == had);
            int far = had + 1;
            due("as far " + far, x.odds(0, 0, 0), far);
            due("just by t, " + far, x.odds(0, 0, 1000 + 250 * far), 1);
            due("not by t less 1, " + far, x.odds(0, 0, 999 + 250 * far), 0);
            due("by 1, " + far, x.odds(0, 0, 1001), 0);
            due("by 1000, " + far, x.odds(0, 0, 2000), 1);
        }
        read(x, "many 4;");
        due("none as far stands by 1", x.odds(1, 0, 1001), 1);
        x.had(3, false);
        due("without odds", x.odds(1, 0, 2000), NONE);
        due("without odds it doesn't stand in a course", x.course(1, 0, 1000, 0), 0);
        x = asked(127, 99, 99, 99, 99, 99, 99, 99, 0, 0, 0, 0, 0, 0, 0);
        x.text();
        due("one of 16384", x.odds(0, 0, 0), 1);
        due("one of 16384 stands by 1", x.odds(0, 0, 1001), 1);
        for (int c = 0; c < 14; c++) x.had(c, c > 6);
        due("all that have D", x.odds(0, 0, 0), 16382);
        due("they don't stand by 999", x.odds(0, 0, 1999), 0);
        due("they stand by 1000", x.odds(0, 0, 2000), 1);
    }

    private void paid() {
        says("PAID, of a set of THINGS that have ODDS (those without are aside), by t:");
        MorningCoin x = asked(1, 4, 3, 2, 1);
        read(x, "many 1;");
        x.thing(0, 0, false, 0);
        answers(x, 1, 3, 4, 2, 1);
        x.thing(0, 0, false, 0);
        x.thing(0, 0, false, 0);
        answers(x, 3, 4, 3, 2, 1);
        // AS FAR are 1, 2, none, 1 of 4.
        due("none of none", x.paid(0, 0, 1000), 0);
        due("none with odds", x.paid(0, 4, 1000), 0);
        due("one", x.paid(0, 1, 250), 1);
        due("one, less", x.paid(0, 1, 249), 0);
        due("one, the other without odds", x.paid(0, 5, 250), 1);
        says("in the order of AS FAR (of like ones by number) the i-th (from 0) of k THINGS is PAID if"
            + " AS FAR * (k - i) * 1000 is t * DEALS or less, and all ahead of it are.");
        due("two alike", x.paid(0, 9, 500), 9);
        due("two alike, the first isn't and so the second neither", x.paid(0, 9, 499), 0);
        due("the greater is the last", x.paid(0, 3, 500), 3);
        due("the greater is the last, less", x.paid(0, 3, 499), 0);
        due("three", x.paid(0, 11, 750), 11);
        due("three, less", x.paid(0, 11, 749), 0);
        due("with the one without odds", x.paid(0, 15, 750), 11);
        due("by 1000", x.paid(0, 15, 1000), 11);
        answers(x, 1, 1, 2, 3, 4);
        due("the last isn't", x.paid(0, 11, 999), 9);
        due("the last just is", x.paid(0, 11, 1000), 11);
        due("the last alone", x.paid(0, 2, 999), 0);
        read(x, "many 4;");
        due("none as far, by 1", x.paid(1, 15, 1), 11);
        read(x, "many 5;");
        due("no deals", x.paid(2, 15, 1000), 0);
        // Each is AS FAR by 1 of 6: of more than six the first isn't PAID.
        x = four();
        read(x, "many 2;");
        for (int i = 0; i < 11; i++) {
            x.thing(0, 0, false, 0);
            answers(x, i + 1, 8, 2, 6, 4);
        }
        due("twelve alike", x.paid(0, 4095, 1000), 0);
        due("six alike", x.paid(0, 63, 1000), 63);
        due("seven alike", x.paid(0, 127, 1000), 0);
        due("the upper six", x.paid(0, 4032, 1000), 4032);
    }

    private void few() {
        says("FEW by t: the fewest CHILDREN (2 at most) without whose ANSWERS the THING doesn't STAND:");
        // AS FAR is 1 of 3; without 1 or 2 it is 1 still, without 0 there are no ODDS.
        few("many 1;", asked(1, 9, 5, 1), 999, 1, 0, NONE);
        few("", asked(3, 9, 9, 1, 1), 1000, 2, 0, 1);
        MorningCoin x = asked(56, 1, 1, 1, 9, 9, 9);
        few("", x, 1000, NONE, NONE, NONE);
        x.answer(0, 4, NONE);
        few("", x, 1000, 2, 3, 5);
        few("many 4;", asked(1, 9, 5, 1), 1000, NONE, NONE, NONE);
        few("many 1;", asked(0, 9, 5, 1), 1000, NONE, NONE, NONE);
        says("0 if it doesn't so already; of like ones the lowest, then the second.");
        few("many 1;", asked(1, 4, 4, 4, 4), 999, 0, NONE, NONE);
        few("many 1;", asked(1, 4, 4, 4, 4), 1000, 1, 0, NONE);
        // 1 and 4, each alone, make it so, by 400 just (2 of 5 DEALS).
        few("many 1;", asked(14, 2, 2, 0, 0, 0), 400, 1, 1, NONE);
        few("many 1;", asked(14, 2, 2, 0, 0, 0), 399, 0, NONE, NONE);
        // 0 with 4, and 1 with 2.
        few("many 4;", asked(17, 7, 5, 3, 7, 7), 200, 2, 0, 4);
        // 1 with 4, and 2 with 3.
        few("many 4;", asked(18, 8, 7, 4, 4, 6), 400, 2, 1, 4);
        // 0 with 2, and 0 with 3.
        few("many 4;", asked(9, 8, 7, 2, 4, 6), 400, 2, 0, 2);
        // 3 with 4 alone.
        few("many 1;", asked(24, 5, 5, 5, 2, 7), 800, 2, 3, 4);
        few("", asked(12, 1, 1, 9, 9), 1000, 2, 0, 1);
        few("many 1;", asked(8, 1, 2, 3, 9), 1000, 1, 3, NONE);
        int[] last = {1, 1, 1, 1, 1, 1, 1, 1, 1, 1, 1, 1, 1, 9};
        few("many 1;", asked(1 << 13, last), 72, 1, 13, NONE);
        few("many 1;", asked(1 << 13, last), 71, 0, NONE, NONE);
        few("", asked(3 << 12, 1, 1, 1, 1, 1, 1, 1, 1, 1, 1, 1, 1, 9, 9), 1000, 2, 12, 13);
    }

    private void few(String text, MorningCoin x, int t, int many, int lowest, int second) {
        int number = read(x, text);
        String name = "few by \"" + text + "\" and " + t;
        due(name, x.few(number, 0, t, 0), many);
        due(name + ", lowest", x.few(number, 0, t, 1), lowest);
        due(name + ", second", x.few(number, 0, t, 2), second);
    }

    private void changed() {
        says("CHANGED: CHILDREN whose HAD isn't their COIN (4 at most are taken: the lowest);");
        MorningCoin x = asked(1, 6, 5, 4, 3, 2, 1);
        read(x, "many 1;");
        // D by one alone is 3, 9/5, 3/5, -3/5, -9/5, -3.
        changed("none changed", x, 1, 1);
        x.had(4, true);
        changed("one changed, really 3/4", x, 1, 2);
        x.had(3, true);
        changed("two changed, really 1/3 at the least", x, 1, 3);
        x.had(1, true);
        x.had(2, true);
        changed("four changed, 3 with all of them", x, 1, 3);
        fourAreTaken();
        fifthStays();
        says("the least and the greatest AS FAR, over all sets of these who are HAD as their COIN is"
            + " (sets with no ODDS aside).");
        x = asked(0, 9, 1, 1);
        read(x, "many 1;");
        changed("no odds by the coin", x, NONE, NONE);
        x.had(0, true);
        changed("no odds by the coin alone aside", x, 1, 1);
        x = asked(7, 9, 1, 1);
        read(x, "many 1;");
        x.had(0, false);
        changed("a coin without had", x, 3, 3);
        x.had(1, false);
        changed("two coins without had", x, 1, 3);
        x = asked(1, 9, 1, NONE);
        read(x, "many 1;");
        x.had(2, true);
        changed("who isn't found makes no difference", x, 1, 1);
        x = asked(1, 9, 1, 1);
        read(x, "many 4;");
        changed("no deals", x, NONE, NONE);
        x = asked(1, 9, 1, 1);
        read(x, "many 3;");
        changed("no deal is as far", x, 0, 0);
    }

    private void changed(String name, MorningCoin x, int least, int greatest) {
        due(name + ", least", x.changed(0, 0, false), least);
        due(name + ", greatest", x.changed(0, 0, true), greatest);
    }

    private void fourAreTaken() {
        MorningCoin x = asked(1, 9, 5, 5, 5, 0, 5);
        read(x, "many 1;");
        for (int i = 1; i < 5; i++) x.had(i, true);
        // But by 0 alone (5, and 1/5 by another), D is -1/2 to -1/5 with 4, and so five are as far.
        changed("the fourth is taken as well", x, 1, 5);
        // By pairs, where 1, 3 and 5 are changed, and each of their sets is once alone the least and once the greatest.
        eachSet(36, 4, 14, 2, 4, 3, 6, 7, 0);
        eachSet(56, 0, 14, 5, 1, 5, 1, 8, 6);
        eachSet(35, 0, 6, 9, 1, 0, 5, 3, 7);
        eachSet(3, 7, 15, 3, 7, 8, 0, 5, 6);
        eachSet(11, 1, 8, 9, 1, 7, 6, 0, 1);
        eachSet(9, 0, 8, 9, 4, 5, 2, 3, 7);
        eachSet(9, 3, 15, 0, 8, 7, 8, 2, 3);
        eachSet(26, 3, 13, 2, 4, 5, 5, 3, 3);
    }

    private void eachSet(int coins, int least, int greatest, int... all) {
        MorningCoin x = asked(coins, all);
        read(x, "many 2;");
        for (int i = 1; i < 6; i += 2) x.had(i, (coins >> i & 1) == 0);
        changed("three that aren't beside one another, coins " + coins, x, least, greatest);
    }

    private void fifthStays() {
        MorningCoin x = asked(1, 9, 8, 8, 8, 8, 0);
        read(x, "many 1;");
        for (int i = 1; i < 5; i++) x.had(i, true);
        // D by 0 alone is 13/5, really it is 41/5 at the most.
        changed("four of 1 to 4", x, 0, 1);
        x.had(5, true);
        // 5 is HAD by each set, and D -1.4 at the most: all but 5 alone are as far.
        changed("the fifth stays as it is", x, 5, 5);
        x = children(14, 0);
        x.thing(0, 0, false, 0);
        answers(x, 0, 9, 9, 9, 9, 0, 0, 0, 0, 0, 0, 0, 0, 0, 0);
        read(x, "many 4;");
        for (int i = 0; i < 13; i++) x.had(i, true);
        // 4 to 12 stay; with all of 0 to 3 D is 36/13, and so three of these in a deal are as far, but not two.
        changed("the lowest four of thirteen", x, 4 * 10 + 1, 1001);
    }

    private void lost() {
        says("LOST: D really in thousandths, if each ANSWER that wasn't FOUND were what makes it least, or greatest"
            + " (0 .. 99 each).");
        MorningCoin x = asked(1, NONE, NONE);
        due("none found, least", x.lost(0, false), -99000);
        due("none found, greatest", x.lost(0, true), 99000);
        x.thing(0, 0, true, 0);
        due("less, none found, least", x.lost(1, false), -99000);
        due("less, none found, greatest", x.lost(1, true), 99000);
        answers(x, 0, 40, 30);
        due("all found, least", x.lost(0, false), 10000);
        due("all found, greatest", x.lost(0, true), 10000);
        x.answer(0, 0, NONE);
        due("one who has it, least", x.lost(0, false), -30000);
        due("one who has it, greatest", x.lost(0, true), 69000);
        answers(x, 0, 40, NONE);
        due("one who doesn't, least", x.lost(0, false), -59000);
        due("one who doesn't, greatest", x.lost(0, true), 40000);
        answers(x, 1, 40, NONE);
        due("less, one who doesn't, least", x.lost(1, false), -40000);
        due("less, one who doesn't, greatest", x.lost(1, true), 59000);
        answers(x, 1, NONE, 30);
        due("less, one who has it, least", x.lost(1, false), -69000);
        due("less, one who has it, greatest", x.lost(1, true), 30000);
        x = asked(1, 0, NONE, 1, 1);
        due("cut, least", x.lost(0, false), -101000 / 3);
        due("cut, greatest", x.lost(0, true), -666);
        due("one child who has it", asked(1, 5).lost(0, true), NO_D);
        due("one child who doesn't", asked(0, 5).lost(0, true), NO_D);
        due("no child", asked(0).lost(0, false), NO_D);
        x = children(14, 127);
        x.thing(0, 0, false, 0);
        due("fourteen, least", x.lost(0, false), -99000);
        due("fourteen, greatest", x.lost(0, true), 99000);
    }

    private void back() {
        says("BACK of a set of THINGS: of each that has D really PRICE * D in thousandths (D's cut);"
            + " all together by COST (1 .. 9999; at first 1000), cut towards 0.");
        MorningCoin x = children(4, 7);
        x.thing(0, 0, false, 999);
        answers(x, 0, 1, 1, 0, 0);
        x.thing(0, 0, true, 999);
        answers(x, 1, 1, 1, 0, 0);
        x.thing(0, 0, false, 0);
        answers(x, 2, 9, 9, 9, 0);
        x.thing(0, 0, false, 999);
        due("D cut, by 1000", x.back(1, 0), 665);
        due("below 0, by 1000", x.back(2, 0), -665);
        x.costs(1);
        due("D cut, by 1", x.back(1, 0), 999 * 666);
        due("below 0, by 1", x.back(2, 0), -999 * 666);
        due("both", x.back(3, 0), 0);
        due("no price", x.back(4, 0), 0);
        due("one without D aside", x.back(9, 0), 999 * 666);
        due("without D", x.back(8, 0), NO_D);
        due("none", x.back(0, 0), NO_D);
        x.costs(9999);
        due("by 9999", x.back(1, 0), 66);
        due("below 0, by 9999", x.back(2, 0), -66);
        x.answer(0, 1, NONE);
        x.answer(1, 1, NONE);
        x.costs(1000);
        due("each cut, then all together", x.back(1, 0), 499);
        says("MOST: the THING whose part is greatest, of like ones the lowest.");
        due("most", x.back(15, 1), 0);
        due("most of the lower ones", x.back(6, 1), 2);
        due("most of one below 0", x.back(2, 1), 1);
        due("most of one with part 0", x.back(4, 1), 2);
        due("most of none with D", x.back(8, 1), NO_D);
        due("most of none", x.back(0, 1), NO_D);
        answers(x, 3, 1, NONE, 0, 0);
        due("of like ones the lowest", x.back(9, 1), 0);
        due("of all the lowest", x.back(15, 1), 0);
        answers(x, 3, 2, NONE, 0, 0);
        due("the last is greatest", x.back(15, 1), 3);
        partsInFull();
    }

    private void partsInFull() {
        MorningCoin x = children(2, 1);
        for (int i = 0; i < 12; i++) {
            x.thing(0, 0, i > 5, 999);
            answers(x, i, i > 5 ? 0 : 99, i > 5 ? 99 : 0);
        }
        x.costs(1);
        due("the greatest there can be", x.back(4095, 0), 1186812000);
        for (int i = 0; i < 12; i++) answers(x, i, i > 5 ? 99 : 0, i > 5 ? 0 : 99);
        due("the least there can be", x.back(4095, 0), -1186812000);
        due("most of all alike", x.back(4095, 1), 0);
        due("most of the upper ones alike", x.back(4032, 1), 6);
    }

    /** THINGS of KIND 1 at AGES, whose AS FAR is 1 of 4 (it STANDS) or 4 of 4, or who have no ODDS. */
    private static MorningCoin courses(String how, int... ages) {
        MorningCoin x = children(4, 1);
        read(x, "many 1;");
        for (int i = 0; i < ages.length; i++) {
            x.thing(1, ages[i], false, 0);
            if (how.charAt(i) == 's') answers(x, i, 4, 3, 2, 1);
            if (how.charAt(i) == 'n') answers(x, i, 1, 2, 3, 4);
        }
        return x;
    }

    private void course(String how, int bits, int gone, int again) {
        int[] ages = new int[how.length()];
        for (int i = 0; i < ages.length; i++) ages[i] = i;
        MorningCoin x = courses(how, ages);
        due("bits of " + how, x.course(0, 1, 250, 0), bits);
        due("gone of " + how, x.course(0, 1, 250, 1), gone);
        due("again of " + how, x.course(0, 1, 250, 2), again);
    }

    private void course() {
        says("COURSE of a KIND by t and a TEXT: its THINGS by AGE (of like ones by number), the i-th as bit i:"
            + " those that STAND.");
        MorningCoin x = courses("snsns", 9, 8, 7, 99, 0);
        due("by age", x.course(0, 1, 250, 0), 0b01011);
        x = courses("ssnsn", 5, 5, 5, 5, 5);
        due("of like ones by number", x.course(0, 1, 250, 0), 0b01011);
        x.thing(0, 0, false, 0);
        x.thing(3, 0, false, 0);
        due("its things alone", x.course(0, 1, 250, 0), 0b01011);
        due("of a kind with one", x.course(0, 0, 1000, 0), 0);
        due("of a kind with none", x.course(0, 2, 1000, 0), 0);
        due("all stand by 1000", x.course(0, 1, 1000, 0), 31);
        due("none stands by 249", x.course(0, 1, 249, 0), 0);
        says("GONE: the first i that doesn't STAND, with one ahead that does.");
        says("AGAIN: the first i that STANDS, with a GONE one ahead.");
        course("", 0, NONE, NONE);
        course("s", 1, NONE, NONE);
        course("n", 0, NONE, NONE);
        course("-", 0, NONE, NONE);
        course("ns", 2, NONE, NONE);
        course("sn", 1, 1, NONE);
        course("s-", 1, 1, NONE);
        course("sns", 5, 1, 2);
        course("s-s", 5, 1, 2);
        course("ssnns", 19, 2, 4);
        course("nsns", 10, 2, 3);
        course("nnss", 12, NONE, NONE);
        course("nssn", 6, 3, NONE);
        course("snsns", 21, 1, 2);
        course("ssssssssssss", 4095, NONE, NONE);
        course("sssssssssssn", 2047, 11, NONE);
        course("ssssssssssns", 3071, 10, 11);
        course("snnnnnnnnnns", 2049, 1, 11);
    }

    private static MorningCoin ages(int... ages) {
        MorningCoin x = new MorningCoin();
        for (int age : ages) x.thing(0, age, false, 0);
        return x;
    }

    private void links() {
        says("LINKS (20 at most): from a THING to one of a greater AGE.");
        MorningCoin x = ages(5, 4, 5, 6, 0, 99);
        due("to a greater age by one", x.link(0, 3), 1);
        due("to a like age", x.link(0, 2), NONE);
        due("to a like age, back", x.link(2, 0), NONE);
        due("to a lesser age by one", x.link(0, 1), NONE);
        due("from the least to the greatest age", x.link(4, 5), 2);
        due("back", x.link(5, 4), NONE);
        x = ages(0, 1, 2, 3, 4, 5, 6);
        int many = 0;
        for (int a = 0; a < 6; a++) for (int b = a + 1; b < 7 && many < 20; b++) due("link " + a + b, x.link(a, b), ++many);
        due("the 21st", x.link(5, 6), NONE);
        due("links", x.about(3), 20);
        due("no way by the 21st", x.ways(5, 6, 1), 0);
        due("a way by the 20th", x.ways(4, 6, 1), 1);
    }

    private void ways() {
        says("WAYS from a THING to another: rows of LINKS: the fewest LINKS of one;");
        MorningCoin x = ages(0, 1, 2, 3, 4);
        for (int i = 0; i < 4; i++) x.link(i, i + 1);
        due("a row of four", x.ways(0, 4, 0), 4);
        x.link(0, 3);
        due("a shorter row", x.ways(0, 4, 0), 2);
        x.link(0, 4);
        due("the shortest row", x.ways(0, 4, 0), 1);
        says("how many there are (1000000 at most is told; to itself one, of no LINK).");
        due("rows", x.ways(0, 4, 1), 3);
        for (int i = 0; i < 5; i++) {
            due("to itself, " + i, x.ways(i, i, 0), 0);
            due("to itself, how many, " + i, x.ways(i, i, 1), 1);
        }
        due("no way back", x.ways(4, 0, 0), NONE);
        due("no way back, how many", x.ways(4, 0, 1), 0);
        x = ages(0, 1, 2, 3, 4, 5, 6, 7, 8, 9, 10, 11);
        for (int i = 0; i < 11; i++) x.link(i, i + 1);
        due("eleven links", x.ways(0, 11, 0), 11);
        due("eleven links, one row", x.ways(0, 11, 1), 1);
        for (int i = 0; i < 9; i++) x.link(i, i + 2);
        // 20 LINKS can't make 1000000 rows: these make what the sums of the two ahead come to.
        due("twenty links", x.ways(0, 11, 1), 89);
        due("twenty links, fewest", x.ways(0, 11, 0), 6);
    }

    /** Three of each SEX, the first of each with the coin. */
    private static MorningCoin sexes(boolean less, int... all) {
        MorningCoin x = new MorningCoin();
        for (int i = 0; i < 6; i++) x.child(i / 3, i, 0, false, i % 3 == 0);
        x.thing(0, 0, less, 0);
        answers(x, 0, all);
        x.text();
        return x;
    }

    private void gap() {
        says("SEXES: D over CHILDREN of a SEX.");
        MorningCoin x = sexes(false, 9, 1, 1, 5, 5, 2);
        due("D of sex 0", x.difference(0, 0, 2), 8000);
        due("D of sex 1", x.difference(0, 1, 2), 1500);
        says("GAP: D of SEX 0 less D of SEX 1 (none, if one is).");
        due("a gap", x.gap(0, 0) > 0, true);
        for (int c = 0; c < 6; c += 3) {
            x = sexes(false, 9, 1, 1, 5, 5, 2);
            x.had(c, false);
            due("nobody of a sex is had, " + c, x.gap(0, 0), NONE);
            x = sexes(false, 9, 1, 1, 5, 5, 2);
            x.answer(0, c, NONE);
            due("who is had of a sex isn't found, " + c, x.gap(0, 0), NONE);
            x = sexes(false, 9, 1, 1, 5, 5, 2);
            x.had(c + 1, true);
            x.had(c + 2, true);
            due("all of a sex are had, " + c, x.gap(0, 0), NONE);
        }
        x = four();
        x.had(2, false);
        x.text();
        due("a child alone of its sex is had", x.gap(0, 0), NONE);
        says("Of all DEALS of a TEXT how many have a GAP as far from 0 as really, or farther.");
        // By one of each sex D are 8, -4, -4; by two 4, 4, -8: GAPS of all pairs of six and six.
        x = sexes(false, 9, 1, 1, 9, 1, 1);
        due("no gap really: all that have one", x.gap(0, 0), 36);
        x = sexes(false, 9, 1, 1, 1, 9, 9);
        due("8 less -8", x.gap(0, 0), 2);
        x = sexes(false, 1, 9, 9, 9, 1, 1);
        due("-8 less 8", x.gap(0, 0), 2);
        x = sexes(true, 1, 9, 9, 9, 1, 1);
        due("of less", x.gap(0, 0), 2);
        x = sexes(false, 9, 1, 1, 1, 9, 1);
        due("8 less -4 is 12 or -12", x.gap(0, 0), 10);
        x = sexes(false, 9, 1, 1, 1, 9, 9);
        read(x, "apart wit=0 and witb=1;together wit=0 and witb=3;together witb=2 and wit=1 or witb=4 and wit=1;"
            + "together wit=1 and witb=5;");
        due("the first deal and the last", x.gap(1, 0), 2);
        due("each of two deals", x.deals(1, NONE), 2);
        x = four();
        x.text();
        read(x, "many 2;");
        due("of all deals", x.gap(0, 0), 4);
        due("of those of another text alone", x.gap(1, 0), 4);
        x = sexes(false, 99, 0, 0, 0, 99, 99);
        due("as far as can be", x.gap(0, 0), 2);
        read(x, "many 0;");
        due("no deal has a gap", x.gap(1, 0), 0);
        read(x, "many 7;");
        due("no deals", x.gap(2, 0), NONE);
        read(x, "over sex=0;");
        due("a sex is over", x.gap(3, 0), 0);
        read(x, "over wit=0;many 2;");
        due("as dealt", x.gap(4, 0), 0);
    }

    private void land() {
        says("A LAND: STEPS (8 at most): from LOW to HIGH hundredths (-100 .. 200).");
        MorningCoin x = asked(1, 3, 0);
        for (int i = 1; i <= 8; i++) due("step " + i, x.step(100, 100), i);
        due("a ninth", x.step(100, 100), NONE);
        due("through eight", x.land(0, true), 3000);
        spans(new int[] {-100, 200}, -3000, 6000);
        spans(new int[] {-100, -100}, -3000, -3000);
        spans(new int[] {200, 200}, 6000, 6000);
        spans(new int[] {0, 0}, 0, 0);
        says("D really in thousandths through all: from one span to the next the least and the greatest of both ends"
            + " times LOW, HIGH, / 100 cut towards 0.");
        spans(new int[] {}, 3000, 3000);
        spans(new int[] {50, 150, -100, 100}, -4500, 4500);
        spans(new int[] {-100, 200, -100, 200}, -6000, 12000);
        spans(new int[] {-100, 0, -100, 0}, 0, 3000);
        spans(new int[] {1, 1, 1, 1}, 0, 0);
        spans(new int[] {1, 1, 10, 99}, 3, 29);
        spans(new int[] {-1, -1, 10, 99}, -29, -3);
        spans(new int[] {-1, 1, -99, 99}, -29, 29);
        spans(new int[] {33, 33, 33, 33, 33, 33}, 107, 107);
        spans(new int[] {-33, -33, 33, 33, 33, 33}, -107, -107);
        x = asked(2, 99, 0);
        for (int i = 0; i < 8; i++) x.step(-100, 200);
        due("the least there can be", x.land(0, false), -25344000);
        due("the greatest then", x.land(0, true), 12672000);
        x = asked(1, 5, 5);
        x.step(-100, 200);
        due("no difference, least", x.land(0, false), 0);
        due("no difference, greatest", x.land(0, true), 0);
        x = asked(7, 1, 1, 0, 0);
        x.step(50, 50);
        due("D cut ahead of the land", x.land(0, true), 333);
    }

    private void spans(int[] steps, int least, int greatest) {
        MorningCoin x = asked(1, 3, 0);
        StringBuilder name = new StringBuilder("by steps");
        for (int i = 0; i < steps.length; i += 2) {
            x.step(steps[i], steps[i + 1]);
            name.append(' ').append(steps[i]).append("..").append(steps[i + 1]);
        }
        due(name + ", least", x.land(0, false), least);
        due(name + ", greatest", x.land(0, true), greatest);
    }

    private void life(String text, int seed, int found, int... all) {
        MorningCoin x = children(all.length, 1);
        x.thing(0, 9, false, 0);
        x.answer(0, 0, 55);
        x.answer(0, 1, NONE);
        x.answer(0, 2, 55);
        due("text of " + text, read(x, text), 0);
        due("found by " + text, x.live(0, 0, seed), found);
        for (int c = 0; c < all.length; c++) due("child " + c + " by " + text, x.answered(0, c), all[c]);
    }

    private void lived() {
        says("LIVED by a TEXT: ANSWERS of a THING anew, CHILD by CHILD from 0 on:");
        life("value 7;", 0, 3, 7, 7, 7);
        life("value 7;found had=1;", 0, 1, 7, NONE, NONE);
        life("value 7;found had=0;", 0, 2, NONE, 7, 7);
        says("FOUND, if some found clause is so (without any: FOUND);");
        life("", 0, 3, 0, 0, 0);
        life("found 1=2;", 0, 0, NONE, NONE, NONE);
        life("found 1=1;", 0, 3, 0, 0, 0);
        life("found 1=2;found had=1;", 0, 1, 0, NONE, NONE);
        life("found had=1;found 1=2;", 0, 1, 0, NONE, NONE);
        life("found had=1;found had=0;", 0, 3, 0, 0, 0);
        life("over 1=1;", 0, 3, 0, 0, 0);
        life("found 1=2;value 7;", 0, 0, NONE, NONE, NONE);
        says("the ANSWER is value, 0 at least, 99 at most (without 0).");
        life("value -1;", 0, 3, 0, 0, 0);
        life("value 0;", 0, 3, 0, 0, 0);
        life("value 1;", 0, 3, 1, 1, 1);
        life("value 98;", 0, 3, 98, 98, 98);
        life("value 99;", 0, 3, 99, 99, 99);
        life("value 100;", 0, 3, 99, 99, 99);
        life("value 9999*9999;", 0, 3, 99, 99, 99);
        life("value -9999*9999;", 0, 3, 0, 0, 0);
        life("value had*200-100;", 0, 3, 99, 0, 0);
        MorningCoin x = new MorningCoin();
        x.thing(0, 0, false, 0);
        x.text();
        due("nobody lives", x.live(0, 0, 0), 0);
    }

    private void draws() {
        says("draw is X mod 100, X being first SEED * 7 + 11 (SEED 0 .. 9999),"
            + " for each next CHILD (X * 171 + 5) mod 30323;");
        // 11, 1886, 19281, 22172: 70004, 23627, 7263, 29058.
        life("value draw;", 0, 4, 11, 86, 81, 72);
        life("value draw;", 1, 4, 18, 83, 7, 84);
        life("value draw;", 9999, 4, 4, 27, 86, 74);
        life("value draw;found draw<50;", 0, 1, 11, NONE, NONE, NONE);
        life("value draw;found had=0;", 0, 3, NONE, 86, 81, 72);
        life("value draw;found draw=11 or draw=81;", 0, 2, 11, NONE, 81, NONE);
        MorningCoin x = children(14, 0);
        x.thing(0, 0, false, 0);
        read(x, "value draw;");
        for (int seed : new int[] {0, 5000, 9999}) {
            due("fourteen, seed " + seed, x.live(0, 0, seed), 14);
            long state = seed * 7L + 11;
            for (int c = 0; c < 14; c++) {
                due("draw of " + c + ", seed " + seed, x.answered(0, c), state % 100);
                state = (state * 171 + 5) % 30323;
            }
        }
    }

    private void image() {
        says("AN IMAGE: all as it is, but the tape and the latest FAULT; TEXTS told behind it are gone behind going back.");
        MorningCoin x = four();
        due("a text", read(x, "many 2;"), 0);
        due("a text with a fault", read(x, "many 1;many 1;"), NONE);
        put(x, "many 3;");
        x.image();
        due("the tape goes on", x.text(), 1);
        due("a later fault", read(x, "over sexb=1;"), NONE);
        put(x, "many 14;over 1=1");
        x.again();
        due("the text of the image", x.deals(0, NONE), 6);
        due("the text behind it is gone", x.deals(1, NONE), NONE);
        due("texts", x.about(2), 1);
        due("the tape is the later", x.about(6), 16);
        due("the fault is the later", x.fault(0), 5);
        due("its place is the later", x.fault(1), 5);
        put(x, ";");
        due("the tape is read behind going back", x.text(), 1);
        due("another text of that number", x.deals(1, NONE), 0);
        for (int i = 2; i < 6; i++) due("text " + i, read(x, "many 1;"), i);
        due("a seventh", read(x, "many 1;"), NONE);
        x.again();
        due("there is room again", x.text(), 1);
        due("its deals", x.deals(1, NONE), 4);
        due("those of the image still", x.deals(0, NONE), 6);
    }

    private void constants() {
        says("The constants: `NONE = -1`: None.");
        due("NONE", MorningCoin.NONE, -1);
    }
}
