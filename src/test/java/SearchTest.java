import java.lang.reflect.Constructor;
import java.lang.reflect.Method;
import java.util.ArrayList;
import java.util.List;
import java.util.Random;

/**
 * The search inside the class, on clauses that no net of eight places gives: only these are so hard
 * that learned clauses must be forgotten again.
 */
public final class SearchTest {
    private static final int VARIABLES = 38;

    private final List<long[]> rows = new ArrayList<>();
    private final Object clauses;
    private final Object search;

    private SearchTest() throws ReflectiveOperationException {
        Class<?> clausesClass = Class.forName("NetUnfolder$Clauses");
        Constructor<?> makeClauses = clausesClass.getDeclaredConstructor();
        makeClauses.setAccessible(true);
        clauses = makeClauses.newInstance();
        Constructor<?> makeSearch = Class.forName("NetUnfolder$Search").getDeclaredConstructor(clausesClass);
        makeSearch.setAccessible(true);
        search = makeSearch.newInstance(clauses);
    }

    public static void main(String[] args) throws ReflectiveOperationException {
        pigeons(4, 4, true);
        pigeons(5, 4, false);
        pigeons(6, 5, false);
        for (int seed = 0; seed < 100; seed++) {
            randomClauses(seed, 3, VARIABLES, 4.2);
            randomClauses(seed, 4, 34, 9.5);
            randomClauses(seed, 5, 27, 20.0);
        }
        Checks.end();
    }

    /** Each pigeon in a hole, no two in one: not to be had with more pigeons than holes. */
    private static void pigeons(int pigeons, int holes, boolean due) throws ReflectiveOperationException {
        SearchTest test = new SearchTest();
        for (int i = 0; i < pigeons; i++) {
            test.give(((1L << holes) - 1) << i * holes, 0L);
            for (int j = 0; j < i; j++) {
                for (int h = 0; h < holes; h++) {
                    test.give(0L, 1L << i * holes + h | 1L << j * holes + h);
                }
            }
        }
        Checks.that(pigeons + " pigeons in " + holes + " holes: " + due, test.solve(pigeons * holes) == due);
        test.compare(pigeons + " pigeons", pigeons * holes);
    }

    /** About as many clauses for each variable as make it hard to tell whether there is an answer. */
    private static void randomClauses(int seed, int width, int most, double each)
            throws ReflectiveOperationException {
        Random random = new Random(seed);
        SearchTest test = new SearchTest();
        int variables = 6 + random.nextInt(most - 5);
        int number = (int) (variables * each);
        for (int i = 0; i < number; i++) {
            long in = 0L;
            long out = 0L;
            for (int k = 0; k < width; k++) {
                long bit = 1L << random.nextInt(variables);
                if (random.nextBoolean()) {
                    in |= bit;
                } else {
                    out |= bit;
                }
            }
            test.give(in, out);
        }
        test.compare(width + " wide, seed " + seed, variables);
    }

    private void compare(String name, int variables) throws ReflectiveOperationException {
        boolean found = solve(variables);
        long due = firstAnswer(0, 0L, variables);
        Checks.that(name + ": whether there is an answer", found == (due >= 0));
        if (found && due >= 0) {
            Checks.same(name + ": the first answer", answer(variables), due);
        }
    }

    /** The first answer with "no" before "yes", found by trying; -1 when there is none. */
    private long firstAnswer(int variable, long yes, int variables) {
        long open = -1L << variable;
        for (long[] row : rows) {
            if ((row[0] & (yes | open)) == 0 && (row[1] & (~yes | open)) == 0) {
                return -1;
            }
        }
        if (variable == variables) {
            return yes;
        }
        long without = firstAnswer(variable + 1, yes, variables);
        return without >= 0 ? without : firstAnswer(variable + 1, yes | 1L << variable, variables);
    }

    private void give(long in, long out) throws ReflectiveOperationException {
        rows.add(new long[] {in, out});
        call(clauses, "give", new Class<?>[] {long.class, long.class}, in, out);
    }

    private boolean solve(int variables) throws ReflectiveOperationException {
        return (Boolean) call(search, "solve", new Class<?>[] {long.class}, (1L << variables) - 1);
    }

    private long answer(int variables) throws ReflectiveOperationException {
        long yes = 0L;
        for (int v = 0; v < variables; v++) {
            if ((Boolean) call(search, "says", new Class<?>[] {int.class}, v)) {
                yes |= 1L << v;
            }
        }
        return yes;
    }

    private static Object call(Object on, String name, Class<?>[] types, Object... arguments)
            throws ReflectiveOperationException {
        Method method = on.getClass().getDeclaredMethod(name, types);
        method.setAccessible(true);
        return method.invoke(on, arguments);
    }
}
