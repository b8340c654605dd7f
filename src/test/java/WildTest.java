import java.lang.reflect.InvocationTargetException;
import java.lang.reflect.Method;
import java.lang.reflect.Modifier;
import java.util.Arrays;
import java.util.Comparator;

/** No call ever throws, whatever its arguments, in whatever state. */
public final class WildTest {
    private static final int[] ODD = {Integer.MIN_VALUE, Integer.MIN_VALUE + 1000, -65536, -101, -2, -1, 0, 1, 2, 11, 12,
        13, 14, 15, 31, 32, 33, 99, 100, 201, 300, 301, 1000, 1001, 2000, 9999, 10000, 16384, 65536, Integer.MAX_VALUE};
    private static final String[] WORDS = {"over ", "many ", "1;", "value ", "not ", "(", ")", "-1", "=1;", "wit", "1=1;",
        "together ", "apart ", "sexb", "found ", " and ", " or ", "had", "near 50;", "\u00ff", "10000", "/0*"};
    private static int wrong = 0;

    private WildTest() { }

    public static void main(String[] args) throws IllegalAccessException {
        Method[] face = Arrays.stream(MorningCoin.class.getDeclaredMethods())
            .filter(m -> Modifier.isPublic(m.getModifiers())).toArray(Method[]::new);
        Arrays.sort(face, Comparator.comparing(Method::toString));
        for (int run = 0; run < 600 && wrong == 0; run++) wild(new Chance(run), face);
        System.out.println(wrong == 0 ? "no call threw" : "a call threw");
        if (wrong != 0) System.exit(1);
    }

    private static void wild(Chance chance, Method[] face) throws IllegalAccessException {
        MorningCoin x = chance.oneIn(5) ? new MorningCoin() : chance.oneIn(3) ? Edges.most() : Edges.much();
        for (int i = 0; i < 300; i++) {
            if (chance.oneIn(9)) read(x, chance);
            Method m = face[chance.below(face.length)];
            Object[] given = new Object[m.getParameterCount()];
            for (int k = 0; k < given.length; k++) {
                given[k] = m.getParameterTypes()[k] == boolean.class ? chance.oneIn(2) : (Object) number(chance);
            }
            try {
                m.invoke(x, given);
            } catch (InvocationTargetException e) {
                wrong++;
                System.out.println(m.getName() + Arrays.toString(given) + " threw " + e.getCause());
            }
        }
    }

    private static void read(MorningCoin x, Chance chance) {
        StringBuilder s = new StringBuilder();
        for (int many = chance.below(30); many > 0; many--) s.append(WORDS[chance.below(WORDS.length)]);
        Edges.put(x, s.toString());
        x.text();
    }

    private static int number(Chance chance) {
        return chance.oneIn(3) ? ODD[chance.below(ODD.length)] : chance.below(14);
    }
}
