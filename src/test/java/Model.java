import java.util.ArrayList;
import java.util.Comparator;
import java.util.HashSet;
import java.util.List;
import java.util.Set;
import java.util.TreeMap;

/** The document said again in the plainest way, slow and with the whole library: ModelTest holds the class to it. */
final class Model {
    static final int NO_D = -1000000;
    static final List<String> NAMES =
        List.of("sex", "wit", "home", "works", "sexb", "witb", "homeb", "worksb", "had", "age", "draw");

    record Child(int sex, int wit, int home, boolean works, boolean coin) { }
    record Thing(int number, int kind, int age, boolean less, int price) { }
    record Link(int from, int to) { }
    record Step(int low, int high) { }
    record Token(String what, int at) { }
    record Fraction(long upper, long lower) { }

    /** A formula: a NUMBER or NAME without parts, else what joins its parts. */
    record Formula(String what, List<Formula> parts) { }
    record Clause(String kind, int number, Formula formula) { }

    static final class Fault extends RuntimeException {
        private static final long serialVersionUID = 1L;
        final int what;
        final int at;

        Fault(int what, int at) {
            this.what = what;
            this.at = at;
        }
    }

    List<Child> children = new ArrayList<>();
    Set<Integer> had = new HashSet<>();
    List<Thing> things = new ArrayList<>();
    TreeMap<Integer, Integer> answers = new TreeMap<>();
    List<List<Clause>> texts = new ArrayList<>();
    List<Link> links = new ArrayList<>();
    List<Step> steps = new ArrayList<>();
    int cost = 1000;
    StringBuilder tape = new StringBuilder();
    int faultWhat = -1;
    int faultAt = -1;
    Model kept;

    Model() {
        kept = this;
        kept = copy();
    }

    private Model(boolean any) { }

    private Model copy() {
        Model m = new Model(true);
        m.take(this);
        return m;
    }

    private void take(Model o) {
        children = new ArrayList<>(o.children);
        had = new HashSet<>(o.had);
        things = new ArrayList<>(o.things);
        answers = new TreeMap<>(o.answers);
        texts = new ArrayList<>(o.texts);
        links = new ArrayList<>(o.links);
        steps = new ArrayList<>(o.steps);
        cost = o.cost;
    }

    // ---- what is told

    int child(int sex, int wit, int home, boolean works, boolean coin) {
        boolean ok = sex >= 0 && sex <= 1 && wit >= 0 && wit <= 99 && home >= 0 && home <= 9;
        if (!ok || children.size() == 14) return -1;
        children.add(new Child(sex, wit, home, works, coin));
        if (coin) had.add(children.size() - 1);
        return children.size() - 1;
    }

    boolean isChild(int c) { return c >= 0 && c < children.size(); }
    boolean isThing(int t) { return t >= 0 && t < things.size(); }
    boolean isText(int t) { return t >= 0 && t < texts.size(); }

    boolean had(int child, boolean is) {
        if (!isChild(child)) return false;
        if (is) had.add(child); else had.remove(child);
        return true;
    }

    int thing(int kind, int age, boolean less, int price) {
        boolean ok = kind >= 0 && kind <= 3 && age >= 0 && age <= 99 && price >= 0 && price <= 999;
        if (!ok || things.size() == 12) return -1;
        things.add(new Thing(things.size(), kind, age, less, price));
        return things.size() - 1;
    }

    boolean answer(int thing, int child, int v) {
        if (!isThing(thing) || !isChild(child) || v < -1 || v > 99) return false;
        if (v == -1) answers.remove(thing * 100 + child); else answers.put(thing * 100 + child, v);
        return true;
    }

    int answered(int thing, int child) {
        if (!isThing(thing) || !isChild(child)) return -1;
        return answers.getOrDefault(thing * 100 + child, -1);
    }

    boolean costs(int v) {
        if (v < 1 || v > 9999) return false;
        cost = v;
        return true;
    }

    // ---- D

    Fraction d(int thing, Set<Integer> with, List<Integer> among) {
        long n = 0, s = 0, m = 0, r = 0;
        for (int c : among) {
            int v = answered(thing, c);
            if (v == -1) continue;
            if (with.contains(c)) { n++; s += v; } else { m++; r += v; }
        }
        if (n == 0 || m == 0) return null;
        long upper = s * m - r * n;
        return new Fraction(things.get(thing).less ? -upper : upper, n * m);
    }

    List<Integer> all() {
        List<Integer> l = new ArrayList<>();
        for (int c = 0; c < children.size(); c++) l.add(c);
        return l;
    }

    List<Integer> ofSex(int sex) {
        List<Integer> l = new ArrayList<>();
        for (int c = 0; c < children.size(); c++) if (children.get(c).sex == sex) l.add(c);
        return l;
    }

    int thousandths(Fraction f) { return (int) (f.upper * 1000 / f.lower); }

    int difference(int thing, int sex, int what) {
        if (!isThing(thing) || sex < 0 || sex > 2 || what < 0 || what > 2) return NO_D;
        Fraction f = d(thing, had, sex == 2 ? all() : ofSex(sex));
        if (f == null) return NO_D;
        return what == 0 ? (int) f.upper : what == 1 ? (int) f.lower : thousandths(f);
    }

    // ---- texts

    int feed(int... five) {
        if (tape.length() + 20 > 300) return -1;
        for (int x : five) for (int i = 3; i >= 0; i--) tape.append((char) (x >> (8 * i) & 255));
        return tape.length();
    }

    int end(int n) {
        if (n < 0 || n > tape.length()) return -1;
        tape.setLength(n);
        return n;
    }

    int text() {
        if (texts.size() == 6) return -1;
        String s = tape.toString();
        tape.setLength(0);
        try {
            texts.add(new Parser(s).clauses());
            faultWhat = 0;
            faultAt = -1;
            return texts.size() - 1;
        } catch (Fault f) {
            faultWhat = f.what;
            faultAt = f.at;
            return -1;
        }
    }

    int fault(int what) { return what == 0 ? faultWhat : what == 1 ? faultAt : -1; }

    static final class Parser {
        final List<Token> tokens = new ArrayList<>();
        int i = 0;
        int depth = 0;
        String kind;

        Parser(String s) {
            int at = 0;
            while (at < s.length()) {
                String rest = s.substring(at);
                String t = first(rest);
                if (!t.isBlank() || !(t.equals(" ") || t.equals("\n"))) tokens.add(new Token(t, at));
                at += t.length();
            }
            tokens.add(new Token("", s.length()));
        }

        static String first(String rest) {
            int n = 0;
            while (n < rest.length() && String.valueOf(rest.charAt(n)).matches("[a-zA-Z]")) n++;
            if (n > 0) return rest.substring(0, n);
            while (n < rest.length() && String.valueOf(rest.charAt(n)).matches("[0-9]")) n++;
            if (n > 0) return rest.substring(0, n);
            if (rest.startsWith("<=") || rest.startsWith(">=")) return rest.substring(0, 2);
            return rest.substring(0, 1);
        }

        Token now() { return tokens.get(i); }
        boolean is(String... some) { return List.of(some).contains(now().what); }
        Fault wrong(int what) { return new Fault(what, now().at); }

        void need(String what) {
            if (!is(what)) throw wrong(1);
            i++;
        }

        int number(int most) {
            if (!now().what.matches("[0-9]+")) throw wrong(1);
            if (new java.math.BigInteger(now().what).compareTo(java.math.BigInteger.valueOf(most)) > 0) throw wrong(2);
            return Integer.parseInt(tokens.get(i++).what);
        }

        List<Clause> clauses() {
            List<Clause> told = new ArrayList<>();
            while (!is("")) {
                if (!is("many", "near", "value", "together", "apart", "over", "found")) throw wrong(1);
                kind = now().what;
                boolean once = is("many", "near", "value");
                if (once && told.stream().anyMatch(c -> c.kind.equals(kind))) throw wrong(4);
                if (told.size() == 10) throw wrong(6);
                i++;
                if (kind.equals("many")) told.add(new Clause(kind, number(14), null));
                else if (kind.equals("near")) told.add(new Clause(kind, number(9999), null));
                else told.add(new Clause(kind, 0, kind.equals("value") ? sum() : either()));
                need(";");
            }
            return told;
        }

        Formula two(String what, Formula a, Formula b) { return new Formula(what, List.of(a, b)); }

        Formula either() {
            Formula f = both();
            while (is("or")) { i++; f = two("or", f, both()); }
            return f;
        }

        Formula both() {
            Formula f = ask();
            while (is("and")) { i++; f = two("and", f, ask()); }
            return f;
        }

        void open() {
            if (depth == 8) throw wrong(3);
            depth++;
            i++;
        }

        Formula ask() {
            if (is("not")) {
                open();
                Formula f = new Formula("not", List.of(ask()));
                depth--;
                return f;
            }
            Formula f = sum();
            if (!is("<", "<=", ">", ">=", "=", "#")) throw wrong(1);
            String what = tokens.get(i++).what;
            return two(what, f, sum());
        }

        Formula sum() {
            Formula f = product();
            while (is("+", "-")) { String what = tokens.get(i++).what; f = two(what, f, product()); }
            return f;
        }

        Formula product() {
            Formula f = one();
            while (is("*", "/")) { String what = tokens.get(i++).what; f = two(what, f, one()); }
            return f;
        }

        Formula one() {
            if (is("(")) {
                open();
                Formula f = sum();
                need(")");
                depth--;
                return f;
            }
            if (is("-")) {
                open();
                Formula f = new Formula("minus", List.of(one()));
                depth--;
                return f;
            }
            if (NAMES.contains(now().what)) {
                Set<String> good = switch (kind) {
                    case "together", "apart" ->
                        Set.of("sex", "wit", "home", "works", "sexb", "witb", "homeb", "worksb");
                    case "over" -> Set.of("sex", "wit", "home", "works");
                    default -> Set.of("sex", "wit", "home", "works", "had", "age", "draw");
                };
                if (!good.contains(now().what)) throw wrong(5);
                return new Formula(tokens.get(i++).what, List.of());
            }
            return new Formula(String.valueOf(number(9999)), List.of());
        }
    }

    // ---- formulas

    record Scene(Child a, Child b, boolean had, int age, int draw) { }

    static long name(String name, Scene s) {
        return switch (name) {
            case "sex" -> s.a.sex;
            case "wit" -> s.a.wit;
            case "home" -> s.a.home;
            case "works" -> s.a.works ? 1 : 0;
            case "sexb" -> s.b.sex;
            case "witb" -> s.b.wit;
            case "homeb" -> s.b.home;
            case "worksb" -> s.b.works ? 1 : 0;
            case "had" -> s.had ? 1 : 0;
            case "age" -> s.age;
            case "draw" -> s.draw;
            default -> Long.parseLong(name);
        };
    }

    static long sum(Formula f, Scene s) {
        if (f.parts.isEmpty()) return name(f.what, s);
        long a = sum(f.parts.get(0), s);
        if (f.what.equals("minus")) return -a;
        long b = sum(f.parts.get(1), s);
        long v = switch (f.what) {
            case "+" -> a + b;
            case "-" -> a - b;
            case "*" -> a * b;
            default -> b == 0 ? 0 : a / b;
        };
        return v > 1000000 ? 1000000 : v < -1000000 ? -1000000 : v;
    }

    static boolean so(Formula f, Scene s) {
        if (f.what.equals("not")) return !so(f.parts.get(0), s);
        if (f.what.equals("and")) return so(f.parts.get(0), s) & so(f.parts.get(1), s);
        if (f.what.equals("or")) return so(f.parts.get(0), s) | so(f.parts.get(1), s);
        long a = sum(f.parts.get(0), s);
        long b = sum(f.parts.get(1), s);
        return switch (f.what) {
            case "<" -> a < b;
            case "<=" -> a <= b;
            case ">" -> a > b;
            case ">=" -> a >= b;
            case "=" -> a == b;
            default -> a != b;
        };
    }

    boolean some(int text, String kind, Scene s) {
        for (Clause c : texts.get(text)) if (c.kind.equals(kind) && so(c.formula, s)) return true;
        return false;
    }

    Clause told(int text, String kind) {
        for (Clause c : texts.get(text)) if (c.kind.equals(kind)) return c;
        return null;
    }

    // ---- deals

    List<Set<Integer>> dealt(int text) {
        List<int[]> together = pairs(text, "together");
        List<int[]> apart = pairs(text, "apart");
        Clause many = told(text, "many");
        Clause near = told(text, "near");
        Set<Integer> over = new HashSet<>();
        for (int c = 0; c < children.size(); c++) {
            if (some(text, "over", new Scene(children.get(c), null, false, 0, 0))) over.add(c);
        }
        List<Set<Integer>> deals = new ArrayList<>();
        for (int bits = 0; bits < 1 << children.size(); bits++) {
            Set<Integer> in = new HashSet<>();
            int unlike = 0;
            for (int c = 0; c < children.size(); c++) {
                boolean is = (bits & 1 << c) != 0;
                if (is) in.add(c);
                unlike += is ? children.get(c).wit : -children.get(c).wit;
            }
            boolean ok = (many == null || in.size() == many.number) && (near == null || Math.abs(unlike) <= near.number);
            for (int[] p : together) ok = ok && in.contains(p[0]) == in.contains(p[1]);
            for (int[] p : apart) ok = ok && in.contains(p[0]) != in.contains(p[1]);
            in.removeAll(over);
            if (ok) deals.add(in);
        }
        return deals;
    }

    List<int[]> pairs(int text, String kind) {
        List<int[]> l = new ArrayList<>();
        for (int a = 0; a < children.size(); a++) {
            for (int b = a + 1; b < children.size(); b++) {
                if (some(text, kind, new Scene(children.get(a), children.get(b), false, 0, 0))) l.add(new int[] {a, b});
            }
        }
        return l;
    }

    int deals(int text, int i) {
        if (!isText(text) || i < -1) return -1;
        List<Set<Integer>> deals = dealt(text);
        if (i == -1) return deals.size();
        if (i >= deals.size()) return -1;
        int bits = 0;
        for (int c : deals.get(i)) bits |= 1 << c;
        return bits;
    }

    /** AS FAR, or -1: no ODDS. */
    int far(List<Set<Integer>> deals, int thing, Set<Integer> really, Set<Integer> without) {
        List<Integer> among = all();
        among.removeAll(without);
        Fraction d = d(thing, really, among);
        if (d == null || deals.isEmpty()) return -1;
        int far = 0;
        for (Set<Integer> deal : deals) {
            Fraction e = d(thing, deal, among);
            if (e != null && e.upper * d.lower >= d.upper * e.lower) far++;
        }
        return far;
    }

    boolean stands(List<Set<Integer>> deals, int far, int t) {
        return far != -1 && (long) far * 1000 <= (long) t * deals.size();
    }

    int odds(int text, int thing, int what) {
        if (!isText(text) || !isThing(thing)) return -1;
        List<Set<Integer>> deals = dealt(text);
        int far = far(deals, thing, had, Set.of());
        if (far == -1) return -1;
        if (what == 0) return far;
        if (what == 1) return far * 1000 / deals.size();
        if (what >= 1001 && what <= 2000) return stands(deals, far, what - 1000) ? 1 : 0;
        return -1;
    }

    int paid(int text, int set, int t) {
        if (!isText(text) || set < 0 || set >= 1 << things.size() || t < 1 || t > 1000) return -1;
        List<Set<Integer>> deals = dealt(text);
        List<int[]> rows = new ArrayList<>();
        for (int thing = 0; thing < things.size(); thing++) {
            if ((set & 1 << thing) == 0) continue;
            int far = far(deals, thing, had, Set.of());
            if (far != -1) rows.add(new int[] {far, thing});
        }
        rows.sort(Comparator.<int[]>comparingInt(r -> r[0]).thenComparingInt(r -> r[1]));
        int paid = 0;
        for (int i = 0; i < rows.size(); i++) {
            if ((long) rows.get(i)[0] * (rows.size() - i) * 1000 > (long) t * deals.size()) break;
            paid |= 1 << rows.get(i)[1];
        }
        return paid;
    }

    int few(int text, int thing, int t, int what) {
        if (!isText(text) || !isThing(thing) || t < 1 || t > 1000 || what < 0 || what > 2) return -1;
        List<Set<Integer>> deals = dealt(text);
        int far = far(deals, thing, had, Set.of());
        if (far == -1) return -1;
        if (!stands(deals, far, t)) return what == 0 ? 0 : -1;
        for (int a = 0; a < children.size(); a++) {
            if (!stands(deals, far(deals, thing, had, Set.of(a)), t)) return what == 0 ? 1 : what == 1 ? a : -1;
        }
        for (int a = 0; a < children.size(); a++) {
            for (int b = a + 1; b < children.size(); b++) {
                if (!stands(deals, far(deals, thing, had, Set.of(a, b)), t)) return what == 0 ? 2 : what == 1 ? a : b;
            }
        }
        return -1;
    }

    int changed(int text, int thing, boolean most) {
        if (!isText(text) || !isThing(thing)) return -1;
        List<Set<Integer>> deals = dealt(text);
        List<Integer> over = new ArrayList<>();
        for (int c = 0; c < children.size(); c++) {
            if (had.contains(c) != children.get(c).coin && over.size() < 4) over.add(c);
        }
        int best = -1;
        for (int bits = 0; bits < 1 << over.size(); bits++) {
            Set<Integer> really = new HashSet<>(had);
            for (int i = 0; i < over.size(); i++) {
                if ((bits & 1 << i) == 0) continue;
                if (children.get(over.get(i)).coin) really.add(over.get(i)); else really.remove(over.get(i));
            }
            int far = far(deals, thing, really, Set.of());
            if (far != -1 && (best == -1 || (most ? far > best : far < best))) best = far;
        }
        return best;
    }

    int lost(int thing, boolean most) {
        if (!isThing(thing)) return NO_D;
        Integer best = null;
        // Each lost answer 0 or 99 in all ways would be too many: those with one sign of HAD go alike.
        for (int way = 0; way < 4; way++) {
            TreeMap<Integer, Integer> before = answers;
            answers = new TreeMap<>(before);
            for (int c = 0; c < children.size(); c++) {
                boolean high = (way & (had.contains(c) ? 1 : 2)) != 0;
                answers.putIfAbsent(thing * 100 + c, high ? 99 : 0);
            }
            Fraction f = d(thing, had, all());
            answers = before;
            if (f == null) return NO_D;
            int v = thousandths(f);
            if (best == null || (most ? v > best : v < best)) best = v;
        }
        return best;
    }

    int back(int set, int what) {
        if (set < 0 || set >= 1 << things.size() || what < 0 || what > 1) return NO_D;
        long sum = 0;
        long greatest = Long.MIN_VALUE;
        int who = NO_D;
        for (Thing t : things) {
            Fraction f = (set & 1 << t.number) != 0 ? d(t.number, had, all()) : null;
            if (f == null) continue;
            long part = (long) t.price * thousandths(f);
            sum += part;
            if (part > greatest) { greatest = part; who = t.number; }
        }
        return who == NO_D ? NO_D : what == 1 ? who : (int) (sum / cost);
    }

    int course(int text, int kind, int t, int what) {
        if (!isText(text) || kind < 0 || kind > 3 || t < 1 || t > 1000 || what < 0 || what > 2) return -1;
        List<Set<Integer>> deals = dealt(text);
        List<Thing> row = new ArrayList<>();
        for (Thing x : things) if (x.kind == kind) row.add(x);
        row.sort(Comparator.comparingInt(Thing::age).thenComparingInt(Thing::number));
        int bits = 0;
        int gone = -1;
        int again = -1;
        for (int i = 0; i < row.size(); i++) {
            boolean stands = stands(deals, far(deals, row.get(i).number, had, Set.of()), t);
            if (!stands && bits != 0 && gone == -1) gone = i;
            if (stands && gone != -1 && again == -1) again = i;
            if (stands) bits |= 1 << i;
        }
        return what == 0 ? bits : what == 1 ? gone : again;
    }

    int link(int from, int to) {
        if (!isThing(from) || !isThing(to) || from == to || things.get(to).age <= things.get(from).age) return -1;
        if (links.contains(new Link(from, to)) || links.size() == 20) return -1;
        links.add(new Link(from, to));
        return links.size();
    }

    int ways(int from, int to, int what) {
        if (!isThing(from) || !isThing(to) || what < 0 || what > 1) return -1;
        long[] told = waysOn(from, to);
        return what == 0 ? (int) told[0] : (int) Math.min(told[1], 1000000);
    }

    long[] waysOn(int from, int to) {
        if (from == to) return new long[] {0, 1};
        long[] best = {-1, 0};
        for (Link l : links) {
            if (l.from != from) continue;
            long[] rest = waysOn(l.to, to);
            if (rest[1] > 0 && (best[0] == -1 || rest[0] + 1 < best[0])) best[0] = rest[0] + 1;
            best[1] += rest[1];
        }
        return best;
    }

    Fraction gap(int thing, Set<Integer> with) {
        Fraction a = d(thing, with, ofSex(0));
        Fraction b = d(thing, with, ofSex(1));
        if (a == null || b == null) return null;
        return new Fraction(Math.abs(a.upper * b.lower - b.upper * a.lower), a.lower * b.lower);
    }

    int gap(int text, int thing) {
        if (!isText(text) || !isThing(thing)) return -1;
        List<Set<Integer>> deals = dealt(text);
        Fraction g = gap(thing, had);
        if (g == null || deals.isEmpty()) return -1;
        int n = 0;
        for (Set<Integer> deal : deals) {
            Fraction h = gap(thing, deal);
            if (h != null && h.upper * g.lower >= g.upper * h.lower) n++;
        }
        return n;
    }

    int step(int low, int high) {
        if (low < -100 || low > 200 || high < -100 || high > 200 || low > high || steps.size() == 8) return -1;
        steps.add(new Step(low, high));
        return steps.size();
    }

    int land(int thing, boolean most) {
        if (!isThing(thing)) return NO_D;
        Fraction f = d(thing, had, all());
        if (f == null) return NO_D;
        long a = thousandths(f);
        long b = a;
        for (Step s : steps) {
            long[] ends = {a * s.low / 100, a * s.high / 100, b * s.low / 100, b * s.high / 100};
            java.util.Arrays.sort(ends);
            a = ends[0];
            b = ends[3];
        }
        return (int) (most ? b : a);
    }

    int live(int text, int thing, int seed) {
        if (!isText(text) || !isThing(thing) || seed < 0 || seed > 9999) return -1;
        long x = seed * 7 + 11;
        int found = 0;
        for (int c = 0; c < children.size(); c++) {
            Scene s = new Scene(children.get(c), null, had.contains(c), things.get(thing).age, (int) (x % 100));
            if (told(text, "found") == null || some(text, "found", s)) {
                Clause value = told(text, "value");
                long v = value == null ? 0 : sum(value.formula, s);
                answer(thing, c, (int) (v < 0 ? 0 : v > 99 ? 99 : v));
                found++;
            } else {
                answer(thing, c, -1);
            }
            x = (x * 171 + 5) % 30323;
        }
        return found;
    }

    int image() {
        kept = copy();
        return children.size();
    }

    int again() {
        take(kept);
        return children.size();
    }

    int about(int what) {
        int hads = 0;
        int coins = 0;
        for (int c = 0; c < children.size(); c++) {
            if (had.contains(c)) hads |= 1 << c;
            if (children.get(c).coin) coins |= 1 << c;
        }
        int[] all = {children.size(), things.size(), texts.size(), links.size(), steps.size(), cost, tape.length(),
            hads, coins};
        return what >= 0 && what < all.length ? all[what] : -1;
    }
}
