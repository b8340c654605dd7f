/** Makes texts by the grammar, some of them spoilt. */
final class TextMaker {
    private final Chance chance;
    private final boolean wild;

    TextMaker(Chance chance, boolean wild) {
        this.chance = chance;
        this.wild = wild;
    }

    String text() {
        StringBuilder s = new StringBuilder();
        int clauses = chance.oneIn(12) ? 9 + chance.below(4) : chance.below(5);
        boolean small = clauses > 6;
        for (int i = 0; i < clauses; i++) s.append(small ? smallClause() : clause(false)).append(blank());
        String made = s.toString();
        if (wild && chance.oneIn(2)) made = spoilt(made);
        return made.length() > 300 ? made.substring(0, 300) : made;
    }

    private String smallClause() {
        return chance.oneIn(30) ? clause(true) : chance.of("over sex=5;", "over wit<9;", "apart wit=witb;", "together home=homeb;");
    }

    private String clause(boolean small) {
        String kind = chance.of("many", "near", "value", "together", "apart", "over", "found", "together", "apart",
            "over", "found");
        String gap = chance.of(" ", "\n", "  ");
        if (kind.equals("many")) return kind + gap + chance.below(chance.oneIn(9) ? 20 : 8) + ";";
        if (kind.equals("near")) return kind + gap + (chance.oneIn(9) ? chance.below(20000) : chance.below(90)) + ";";
        if (kind.equals("value")) return kind + gap + sum(kind, small ? 0 : 3) + ";";
        return kind + gap + either(kind, small ? 0 : 3) + blank() + ";";
    }

    private String either(String kind, int depth) {
        String s = both(kind, depth);
        while (chance.oneIn(4)) s += " or " + both(kind, depth);
        return s;
    }

    private String both(String kind, int depth) {
        String s = ask(kind, depth);
        while (chance.oneIn(4)) s += " and " + ask(kind, depth);
        return s;
    }

    private String ask(String kind, int depth) {
        String not = "";
        while (chance.oneIn(5)) not += "not ";
        return not + sum(kind, depth) + blank() + chance.of("<", "<=", ">", ">=", "=", "#") + blank()
            + sum(kind, depth);
    }

    private String sum(String kind, int depth) {
        String s = product(kind, depth);
        while (chance.oneIn(3)) s += chance.of("+", "-", " + ", " - ") + product(kind, depth);
        return s;
    }

    private String product(String kind, int depth) {
        String s = one(kind, depth);
        while (chance.oneIn(4)) s += chance.of("*", "/", " * ") + one(kind, depth);
        return s;
    }

    private String one(String kind, int depth) {
        if (wild && chance.oneIn(150)) return deep(kind);
        if (depth > 0 && chance.oneIn(6)) return "(" + sum(kind, depth - 1) + ")";
        if (chance.oneIn(8)) return "-" + one(kind, depth);
        if (chance.oneIn(3)) return number();
        if (wild && chance.oneIn(60)) return name(chance.of("together", "over", "value"));
        return name(kind);
    }

    private String deep(String kind) {
        StringBuilder s = new StringBuilder(name(kind));
        int many = 6 + chance.below(4);
        for (int i = 0; i < many; i++) {
            if (chance.oneIn(2)) s.insert(0, "-");
            else s.insert(0, "(").append(")");
        }
        return s.toString();
    }

    private String number() {
        if (wild && chance.oneIn(40)) return chance.of("9999", "10000", "00009999", "99999999999999", "0", "009");
        return String.valueOf(chance.oneIn(6) ? chance.below(10000) : chance.below(60));
    }

    private String name(String kind) {
        if (kind.equals("together") || kind.equals("apart")) {
            return chance.of("sex", "wit", "home", "works", "sexb", "witb", "homeb", "worksb");
        }
        if (kind.equals("over")) return chance.of("sex", "wit", "home", "works");
        return chance.of("sex", "wit", "home", "works", "had", "age", "draw", "draw");
    }

    private String blank() {
        return chance.oneIn(3) ? chance.of(" ", "\n", " \n ") : "";
    }

    private String spoilt(String made) {
        StringBuilder s = new StringBuilder(made);
        String[] odd = {"(", ")", "-", ";", "not ", " and ", " or ", "<", ">", "=", "#", "+", "*", "/", "7", "wit",
            " witb ", "draw", "many", " near 1;", "\t", "$", "over ", "A", "", "\u0000", "\u00e9", "!", " value 1;",
            "<=", ">=", "&"};
        for (int i = 1 + chance.below(2); i > 0; i--) {
            int at = chance.below(s.length() + 1);
            if (chance.oneIn(2) && at < s.length()) s.deleteCharAt(at);
            s.insert(at, odd[chance.below(odd.length)]);
        }
        if (chance.oneIn(8)) s.setLength(chance.below(s.length() + 1));
        return s.toString();
    }
}
