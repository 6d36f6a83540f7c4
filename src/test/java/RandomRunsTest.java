import java.lang.reflect.Method;
import java.util.Arrays;

/** Long runs of calls, made from fixed seeds, whose every answer the program and the model share. */
public final class RandomRunsTest {
    private static final int RUNS = 2500;
    private static final int CALLS = 512;
    private static final String SIGNS = "gtpfh;;0123456789x";

    private static final Method[] OF_PROGRAM = methodsOf(RelayParcels.class);
    private static final Method[] OF_MODEL = methodsOf(Model.class);

    private final RelayParcels program = new RelayParcels();
    private final Model model = new Model();
    private final StringBuilder calls = new StringBuilder();
    /** The higher, the more often an argument is any number at all. */
    private final int wildness;
    private final int longestPass;
    private final int longestLead;
    private long seed;

    private RandomRunsTest(int run) {
        seed = run * 7919L + 17;
        wildness = next(3) == 0 ? 12 : 200;
        longestPass = 1 + next(24);
        longestLead = 2 + next(48);
    }

    public static void main(String[] args) throws ReflectiveOperationException {
        Checks checks = new Checks();
        for (int run = 0; run < RUNS && checks.failed() < 3; run++) {
            String wrong = new RandomRunsTest(run).run();
            checks.holds("run " + run + ": " + wrong, wrong.isEmpty());
        }
        checks.end();
    }

    private static Method[] methodsOf(Class<?> type) {
        Method[] methods = Arrays.stream(type.getDeclaredMethods())
            .filter(m -> java.lang.reflect.Modifier.isPublic(m.getModifiers()))
            .toArray(Method[]::new);
        Arrays.sort(methods, (a, b) -> a.getName().compareTo(b.getName()));
        return methods;
    }

    private int next(int bound) {
        seed = seed * 6364136223846793005L + 1442695040888963407L;
        return (int) ((seed >>> 33) % bound);
    }

    private String run() throws ReflectiveOperationException {
        for (int i = 0; i < CALLS; i++) {
            String wrong = step();
            if (wrong.isEmpty() && i % 16 == 15) {
                wrong = lookAtAll();
            }
            if (!wrong.isEmpty()) {
                return calls + wrong;
            }
        }
        return "";
    }

    private String step() throws ReflectiveOperationException {
        int kind = next(100);
        int parcel = next(Math.max(1, program.count(5)));
        if (kind < 16) {
            return offerOne();
        }
        if (kind < 18) {
            return call("takeBack", next(17));
        }
        if (kind < 24) {
            return call("post", next(8), next(8), next(6), 1 + next(next(2) == 0 ? 100 : 999), next(4));
        }
        if (kind < 34) {
            return call("pass", 1 + next(longestPass));
        }
        if (kind < 60) {
            return handOver(parcel);
        }
        if (kind < 66) {
            return call("putIn", holderOr(parcel), parcel);
        }
        if (kind < 74) {
            return call("fetch", companion(program.parcel(parcel, 10)), parcel);
        }
        if (kind < 79) {
            return call("claim", parcel);
        }
        if (kind < 87) {
            return keepOrBringBack();
        }
        if (kind < 91) {
            return orders();
        }
        return lookAtOne(parcel);
    }

    private String offerOne() throws ReflectiveOperationException {
        int person = next(8);
        int from = program.person(person, 2);
        if (from < 0 || next(3) == 0) {
            from = next(6);
        }
        int to = next(6);
        return call("offer", person, from, to, 1 + next(longestLead), 1 + next(12), next(next(2) == 0 ? 4 : 100));
    }

    private int holderOr(int parcel) {
        int holder = program.parcel(parcel, 6);
        return holder < 0 || holder > 7 || next(12) == 0 ? next(8) : holder;
    }

    /** Most often a person in the town, so that words and lockers come to something. */
    private int companion(int town) {
        int begin = next(8);
        for (int i = 0; i < 8; i++) {
            int person = (begin + i) % 8;
            if (program.person(person, 2) == town) {
                return person;
            }
        }
        return begin;
    }

    private String handOver(int parcel) throws ReflectiveOperationException {
        int giver = holderOr(parcel);
        int taker = companion(program.parcel(parcel, 10));
        int named = program.parcel(parcel, next(2) == 0 ? 8 : 9);
        if (named >= 0 && next(4) > 0) {
            taker = named;
        }
        return next(2) == 0 ? call("gave", giver, parcel, taker) : call("took", taker, parcel, giver);
    }

    private String keepOrBringBack() throws ReflectiveOperationException {
        int kind = next(8);
        if (kind < 3) {
            return call("take", next(2));
        }
        return kind < 5 ? call("restore", next(2)) : call("undo");
    }

    private String orders() throws ReflectiveOperationException {
        if (next(6) == 0) {
            return call("clearText");
        }
        StringBuilder text = new StringBuilder();
        for (int left = next(5); left > 0; left--) {
            int parcel = next(Math.max(1, program.count(5)));
            text.append(text.length() == 0 ? "" : ";").append(order(parcel));
        }
        if (next(5) == 0) {
            text.insert(next(text.length() + 1), SIGNS.charAt(next(SIGNS.length())));
        }
        for (int i = 0; i < text.length(); i++) {
            String wrong = call("append", (int) text.charAt(i));
            if (!wrong.isEmpty()) {
                return wrong;
            }
        }
        return call("carryOut");
    }

    private String order(int parcel) {
        int holder = holderOr(parcel);
        int other = companion(program.parcel(parcel, 10));
        return switch (next(5)) {
            case 0 -> "g" + holder + parcel + other;
            case 1 -> "t" + other + parcel + holder;
            case 2 -> "p" + holder + parcel;
            case 3 -> "f" + other + parcel;
            default -> "h";
        };
    }

    private String lookAtOne(int parcel) throws ReflectiveOperationException {
        return switch (next(6)) {
            case 0 -> call("earliest", parcel, next(3));
            case 1 -> call("cheapest", parcel, next(2));
            case 2 -> call("wouldClaim", parcel, next(3));
            case 3 -> call("holderAt", parcel, next(program.count(0) + 1));
            case 4 -> call("count", next(16));
            default -> call("parcel", parcel, next(11));
        };
    }

    private String call(String name, Integer... given) throws ReflectiveOperationException {
        Object[] arguments = given.clone();
        for (int i = 0; i < arguments.length; i++) {
            if (next(wildness) == 0) {
                arguments[i] = next(5) == 0 ? (Integer) (next(2) == 0 ? Integer.MIN_VALUE : Integer.MAX_VALUE) : (Integer) (next(30) - 5);
            }
        }
        return compare(name, arguments);
    }

    private String compare(String name, Object... arguments) throws ReflectiveOperationException {
        for (int i = 0; i < OF_PROGRAM.length; i++) {
            if (OF_PROGRAM[i].getName().equals(name)) {
                Object got = OF_PROGRAM[i].invoke(program, arguments);
                Object due = OF_MODEL[i].invoke(model, arguments);
                calls.append(name).append(Arrays.toString(arguments)).append(" ");
                return got.equals(due) ? "" : "answered " + got + ", the model " + due;
            }
        }
        return "no method " + name;
    }

    private String lookAtAll() throws ReflectiveOperationException {
        int length = calls.length();
        StringBuilder wrong = new StringBuilder();
        lookAt(wrong, "count", 17);
        lookAt(wrong, "inLocker", 7);
        for (int i = -1; i <= 16; i++) {
            lookAt(wrong, "trip", i, 8);
            lookAt(wrong, "person", i, 7);
            lookAt(wrong, "parcel", i, 12);
            lookAt(wrong, "earliest", i, 4);
            lookAt(wrong, "cheapest", i, 3);
            lookAt(wrong, "wouldClaim", i, 4);
            if (next(8) == 0) {
                lookAt(wrong, "holderAt", i, program.count(0) + 2);
            }
        }
        if (wrong.isEmpty()) {
            calls.setLength(length);
        }
        return wrong.toString();
    }

    private void lookAt(StringBuilder wrong, String name, int bound) throws ReflectiveOperationException {
        for (int what = -1; what < bound && wrong.isEmpty(); what++) {
            wrong.append(compare(name, what));
        }
    }

    private void lookAt(StringBuilder wrong, String name, int number, int bound) throws ReflectiveOperationException {
        for (int what = -1; what < bound && wrong.isEmpty(); what++) {
            wrong.append(compare(name, number, what));
        }
    }
}
