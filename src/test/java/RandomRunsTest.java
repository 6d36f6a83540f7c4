import java.lang.reflect.Method;
import java.util.ArrayList;
import java.util.Arrays;
import java.util.List;

/**
 * Runs of calls, made from fixed seeds, whose every answer the program and the model share. No object
 * is used for more calls than it is promised for: a short run is made anew for each part of a look at all.
 */
public final class RandomRunsTest {
    private static final int RUNS = 8000;
    private static final int MOST_CALLS = 512;
    private static final int SHORT = 200;
    private static final int PARTS = 6;
    private static final String SIGNS = "gtpfh;;0123456789x";
    /** The ends of the ranges that the document names, and what is next to them. */
    private static final int[] EDGES = {Integer.MIN_VALUE, -9, -1, 0, 1, 2, 3, 4, 5, 6, 7, 8, 9, 10, 11, 14, 15, 16, 23, 24, 25,
        49, 50, 51, 98, 99, 100, 254, 255, 256, 499, 500, 501, 998, 999, 1000, Integer.MAX_VALUE};
    private static final int LATE = 20;

    private static final Method[] OF_PROGRAM = methodsOf(RelayParcels.class);
    private static final Method[] OF_MODEL = methodsOf(Model.class);

    private record Call(int method, Object[] arguments) {
        @Override
        public String toString() {
            return OF_PROGRAM[method].getName() + Arrays.toString(arguments);
        }
    }

    private RelayParcels program = new RelayParcels();
    private Model model = new Model();
    private final List<Call> calls = new ArrayList<>();
    /** The higher, the more often an argument is any number at all. */
    private final int wildness;
    private final int longestPass;
    private final int longestLead;
    private final int length;
    private long seed;

    private RandomRunsTest(int run) {
        seed = run * 7919L + 17;
        wildness = next(3) == 0 ? 12 : 200;
        longestPass = 1 + next(24);
        longestLead = 2 + next(48);
        length = next(4) == 0 ? MOST_CALLS : 20 + next(SHORT - 20);
    }

    public static void main(String[] args) throws ReflectiveOperationException {
        Checks checks = new Checks();
        for (int run = 0; run < RUNS && checks.failed() < 3; run++) {
            String wrong = new RandomRunsTest(run).run();
            checks.holds("run " + run + ": " + wrong, wrong.isEmpty());
        }
        checks.end();
    }

    private static Method[] methodsOf(Class<?> type) {
        Method[] methods = Arrays.stream(type.getDeclaredMethods())
            .filter(m -> java.lang.reflect.Modifier.isPublic(m.getModifiers()))
            .toArray(Method[]::new);
        Arrays.sort(methods, (a, b) -> a.getName().compareTo(b.getName()));
        return methods;
    }

    private int next(int bound) {
        seed = seed * 6364136223846793005L + 1442695040888963407L;
        return (int) ((seed >>> 33) % bound);
    }

    private String run() throws ReflectiveOperationException {
        boolean late = next(6) == 0;
        for (int i = 0; late && i < LATE; i++) {
            compare("pass", 24);
        }
        while (calls.size() < length) {
            String wrong = step();
            if (!wrong.isEmpty()) {
                return calls + wrong;
            }
        }
        return length <= SHORT ? lookAtAll() : "";
    }

    private String step() throws ReflectiveOperationException {
        int kind = next(100);
        int parcel = next(Math.max(1, model.count(5)));
        if (kind < 16) {
            return offerOne();
        }
        if (kind < 18) {
            return call("takeBack", next(17));
        }
        if (kind < 24) {
            return call("post", next(8), next(8), next(6), 1 + next(next(2) == 0 ? 100 : 999), next(4));
        }
        if (kind < 34) {
            return call("pass", 1 + next(longestPass));
        }
        if (kind < 60) {
            return handOver(parcel);
        }
        if (kind < 66) {
            return call("putIn", holderOr(parcel), parcel);
        }
        if (kind < 74) {
            return call("fetch", companion(model.parcel(parcel, 10)), parcel);
        }
        if (kind < 79) {
            return call("claim", parcel);
        }
        if (kind < 87) {
            return keepOrBringBack();
        }
        if (kind < 91) {
            return orders();
        }
        return lookAtOne(parcel);
    }

    private String offerOne() throws ReflectiveOperationException {
        int person = next(8);
        int from = model.person(person, 2);
        if (from < 0 || next(3) == 0) {
            from = next(6);
        }
        int to = next(6);
        return call("offer", person, from, to, 1 + next(longestLead), 1 + next(12), next(next(2) == 0 ? 4 : 100));
    }

    private int holderOr(int parcel) {
        int holder = model.parcel(parcel, 6);
        return holder < 0 || holder > 7 || next(12) == 0 ? next(8) : holder;
    }

    /** Most often a person in the town, so that words and lockers come to something. */
    private int companion(int town) {
        int begin = next(8);
        for (int i = 0; i < 8; i++) {
            int person = (begin + i) % 8;
            if (model.person(person, 2) == town) {
                return person;
            }
        }
        return begin;
    }

    private String handOver(int parcel) throws ReflectiveOperationException {
        int giver = holderOr(parcel);
        int taker = companion(model.parcel(parcel, 10));
        int named = model.parcel(parcel, next(2) == 0 ? 8 : 9);
        if (named >= 0 && next(4) > 0) {
            taker = named;
        }
        return next(2) == 0 ? call("gave", giver, parcel, taker) : call("took", taker, parcel, giver);
    }

    private String keepOrBringBack() throws ReflectiveOperationException {
        int kind = next(8);
        if (kind < 3) {
            return call("take", next(2));
        }
        return kind < 5 ? call("restore", next(2)) : call("undo");
    }

    private String orders() throws ReflectiveOperationException {
        if (next(6) == 0) {
            return call("clearText");
        }
        StringBuilder text = new StringBuilder();
        for (int left = next(5); left > 0; left--) {
            int parcel = next(Math.max(1, model.count(5)));
            text.append(text.length() == 0 ? "" : ";").append(order(parcel));
        }
        if (next(5) == 0) {
            text.insert(next(text.length() + 1), SIGNS.charAt(next(SIGNS.length())));
        }
        for (int i = 0; i < text.length(); i++) {
            String wrong = call("append", (int) text.charAt(i));
            if (!wrong.isEmpty()) {
                return wrong;
            }
        }
        return call("carryOut");
    }

    private String order(int parcel) {
        int holder = holderOr(parcel);
        int other = companion(model.parcel(parcel, 10));
        return switch (next(5)) {
            case 0 -> "g" + holder + parcel + other;
            case 1 -> "t" + other + parcel + holder;
            case 2 -> "p" + holder + parcel;
            case 3 -> "f" + other + parcel;
            default -> "h";
        };
    }

    private String lookAtOne(int parcel) throws ReflectiveOperationException {
        return switch (next(6)) {
            case 0 -> call("earliest", parcel, next(3));
            case 1 -> call("cheapest", parcel, next(2));
            case 2 -> call("wouldClaim", parcel, next(3));
            case 3 -> call("holderAt", parcel, next(model.count(0) + 1));
            case 4 -> call("count", next(16));
            default -> call("parcel", parcel, next(11));
        };
    }

    private String call(String name, Integer... given) throws ReflectiveOperationException {
        Object[] arguments = given.clone();
        for (int i = 0; i < arguments.length; i++) {
            if (next(wildness) == 0) {
                arguments[i] = EDGES[next(EDGES.length)];
            }
        }
        return compare(name, arguments);
    }

    private String compare(String name, Object... arguments) throws ReflectiveOperationException {
        if (calls.size() >= MOST_CALLS) {
            return "";
        }
        for (int i = 0; i < OF_PROGRAM.length; i++) {
            if (OF_PROGRAM[i].getName().equals(name)) {
                Call call = new Call(i, arguments);
                calls.add(call);
                return make(call);
            }
        }
        return "no method " + name;
    }

    private String make(Call call) throws ReflectiveOperationException {
        Object got = OF_PROGRAM[call.method].invoke(program, call.arguments);
        Object due = OF_MODEL[call.method].invoke(model, call.arguments);
        return got.equals(due) ? "" : " answered " + got + ", the model " + due;
    }

    private String lookAtAll() throws ReflectiveOperationException {
        List<Call> made = new ArrayList<>(calls);
        for (int part = 0; part < PARTS; part++) {
            program = new RelayParcels();
            model = new Model();
            for (Call call : made) {
                make(call);
            }
            calls.clear();
            calls.addAll(made);
            StringBuilder wrong = new StringBuilder();
            lookAt(part, wrong);
            if (!wrong.isEmpty()) {
                return calls + wrong.toString();
            }
        }
        return "";
    }

    private void lookAt(int part, StringBuilder wrong) throws ReflectiveOperationException {
        switch (part) {
            case 0 -> {
                lookAt(wrong, "count", 16);
                lookAt(wrong, "inLocker", 6);
                lookAt(wrong, "person", 8, 6);
            }
            case 1 -> lookAt(wrong, "trip", 16, 7);
            case 2 -> lookAt(wrong, "parcel", 10, 11);
            case 3 -> {
                lookAt(wrong, "earliest", 10, 3);
                lookAt(wrong, "cheapest", 10, 2);
                lookAt(wrong, "wouldClaim", 10, 3);
            }
            case 4 -> lookAtHolders(wrong);
            default -> {
                lookAtHistory(wrong);
                wrong.append(wrong.isEmpty() ? compare("carryOut") : "");
            }
        }
    }

    private void lookAt(StringBuilder wrong, String name, int bound) throws ReflectiveOperationException {
        for (int what = -1; what <= bound && wrong.isEmpty(); what++) {
            wrong.append(compare(name, what));
        }
    }

    private void lookAt(StringBuilder wrong, String name, int numbers, int bound) throws ReflectiveOperationException {
        for (int number = -1; number <= numbers; number++) {
            for (int what = -1; what <= bound && wrong.isEmpty(); what++) {
                wrong.append(compare(name, number, what));
            }
        }
    }

    private void lookAtHolders(StringBuilder wrong) throws ReflectiveOperationException {
        for (int parcel = 0; parcel < model.count(5); parcel++) {
            for (int i = 0; i < 25 && wrong.isEmpty(); i++) {
                wrong.append(compare("holderAt", parcel, next(model.count(0) + 3) - 1));
            }
        }
    }

    private void lookAtHistory(StringBuilder wrong) throws ReflectiveOperationException {
        for (int i = 0; i <= 5 && wrong.isEmpty(); i++) {
            wrong.append(compare("undo"));
            lookAt(wrong, "count", 16);
            for (int parcel = 0; parcel < model.count(5) && wrong.isEmpty(); parcel++) {
                wrong.append(compare("parcel", parcel, 6)).append(compare("parcel", parcel, 8));
            }
        }
    }
}
