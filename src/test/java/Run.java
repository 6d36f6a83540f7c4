import java.lang.reflect.InvocationTargetException;
import java.lang.reflect.Method;
import java.util.ArrayList;
import java.util.HashMap;
import java.util.List;
import java.util.Map;
import java.util.function.BiConsumer;

/**
 * A run of calls on a new object, told in words: "post 0 3 3 60 1, gave 0 0 6". It is made anew for
 * every question, so that no question bears on another. Each call of it is due to answer without an
 * error, one with "!" before it is due to be refused. "hours 30" is for as many calls of pass as this
 * takes, "text h;h" for as many of append.
 */
final class Run {
    /** Nothing is promised after them. */
    private static final int MOST_CALLS = 512;
    private static final int NONE = -9;
    private static final Map<String, Method> METHODS = new HashMap<>();

    static {
        for (Method method : RelayParcels.class.getDeclaredMethods()) {
            METHODS.put(method.getName(), method);
        }
    }

    /** Each part of what can be told is asked of an object of its own: all of it takes too many calls for one. */
    private static final List<BiConsumer<Used, StringBuilder>> PARTS = List.of(
        Run::tellPersons, Run::tellTrips, Run::tellParcels, Run::tellHolders, Run::tellHistory,
        (used, told) -> tellSlot(used, 0, told), (used, told) -> tellSlot(used, 1, told), Run::tellText);

    private static final class Used {
        final RelayParcels object = new RelayParcels();
        int calls;

        int call(String words) {
            calls++;
            if (calls > MOST_CALLS) {
                throw new IllegalStateException("a run of more than " + MOST_CALLS + " calls");
            }
            String[] parts = words.split(" ");
            Object[] numbers = new Object[parts.length - 1];
            for (int i = 0; i < numbers.length; i++) {
                numbers[i] = Integer.valueOf(parts[i + 1]);
            }
            try {
                return (int) METHODS.get(parts[0]).invoke(object, numbers);
            } catch (IllegalAccessException | InvocationTargetException e) {
                throw new IllegalStateException(words + " threw", e);
            }
        }
    }

    private final List<String> calls;

    private Run(List<String> calls) {
        this.calls = calls;
    }

    static Run of(String calls) {
        return new Run(List.of()).then(calls);
    }

    Run then(String more) {
        List<String> all = new ArrayList<>(calls);
        for (String call : more.split(", ")) {
            if (call.startsWith("hours ")) {
                addHours(all, Integer.parseInt(call.substring(6)));
            } else if (call.startsWith("text ")) {
                call.substring(5).chars().forEach(sign -> all.add("append " + sign));
            } else if (!call.isEmpty()) {
                all.add(call);
            }
        }
        return new Run(all);
    }

    Run then(Run more) {
        List<String> all = new ArrayList<>(calls);
        all.addAll(more.calls);
        return new Run(all);
    }

    private static void addHours(List<String> all, int hours) {
        for (int left = hours; left > 0; left -= 24) {
            all.add("pass " + Math.min(left, 24));
        }
    }

    Run times(int number, String more) {
        Run run = this;
        for (int i = 0; i < number; i++) {
            run = run.then(more);
        }
        return run;
    }

    int length() {
        return calls.size();
    }

    private Used make() {
        Used used = new Used();
        for (String call : calls) {
            boolean refusal = call.startsWith("!");
            int answer = used.call(refusal ? call.substring(1) : call);
            if (refusal != answer < 0) {
                throw new IllegalStateException(this + ": " + call + " answered " + answer);
            }
        }
        return used;
    }

    /** What one more call answers. */
    int answer(String call) {
        return make().call(call);
    }

    /** All that can be told after the run: also of the states in the history, of the snapshots and the text. */
    String told() {
        StringBuilder told = new StringBuilder();
        for (BiConsumer<Used, StringBuilder> part : PARTS) {
            part.accept(make(), told);
        }
        return told.toString();
    }

    /** All that can be told of the world, but not of the history, the slots and the text. */
    String toldOfTheWorld() {
        StringBuilder told = new StringBuilder();
        for (BiConsumer<Used, StringBuilder> part : PARTS.subList(0, 4)) {
            part.accept(make(), told);
        }
        return told.toString().replaceAll("count 1[345] \\S+ ", "");
    }

    private static void tell(Used used, String call, StringBuilder told) {
        told.append(call).append(" is ").append(used.call(call)).append(' ');
    }

    private static void tellCounts(Used used, StringBuilder told) {
        for (int what = 0; what <= 15; what++) {
            told.append("count ").append(what).append(' ').append(used.call("count " + what)).append(' ');
        }
    }

    private static void tellPersons(Used used, StringBuilder told) {
        tellCounts(used, told);
        for (int town = 0; town <= 5; town++) {
            tell(used, "inLocker " + town, told);
        }
        for (int person = 0; person <= 7; person++) {
            for (int what = 0; what <= 5; what++) {
                tell(used, "person " + person + " " + what, told);
            }
        }
    }

    private static void tellTrips(Used used, StringBuilder told) {
        int trips = used.call("count 1");
        for (int trip = 0; trip < trips; trip++) {
            for (int what = 0; what <= 6; what++) {
                tell(used, "trip " + trip + " " + what, told);
            }
        }
    }

    private static void tellParcels(Used used, StringBuilder told) {
        int parcels = used.call("count 5");
        for (int parcel = 0; parcel < parcels; parcel++) {
            for (int what = 0; what <= 10; what++) {
                tell(used, "parcel " + parcel + " " + what, told);
            }
            for (int what = 0; what <= 2; what++) {
                tell(used, "earliest " + parcel + " " + what, told);
                tell(used, "wouldClaim " + parcel + " " + what, told);
            }
            tell(used, "cheapest " + parcel + " 0", told);
            tell(used, "cheapest " + parcel + " 1", told);
        }
    }

    /** Of as many of the latest hours as some 300 calls can tell. */
    private static void tellHolders(Used used, StringBuilder told) {
        int hour = used.call("count 0");
        int parcels = used.call("count 5");
        int hours = Math.min(hour + 1, 300 / Math.max(parcels, 1));
        for (int parcel = 0; parcel < parcels; parcel++) {
            for (int back = 0; back < hours; back++) {
                tell(used, "holderAt " + parcel + " " + (hour - back), told);
            }
        }
    }

    private static void tellShortly(Used used, StringBuilder told) {
        tellCounts(used, told);
        int trips = used.call("count 1");
        for (int trip = 0; trip < trips; trip++) {
            tell(used, "trip " + trip + " 6", told);
        }
        int parcels = used.call("count 5");
        for (int parcel = 0; parcel < parcels; parcel++) {
            tell(used, "parcel " + parcel + " 6", told);
            tell(used, "parcel " + parcel + " 8", told);
            tell(used, "parcel " + parcel + " 9", told);
        }
    }

    private static void tellHistory(Used used, StringBuilder told) {
        int states = used.call("count 14");
        for (int i = 0; i <= states; i++) {
            tell(used, "undo", told);
            tellShortly(used, told);
        }
    }

    private static void tellSlot(Used used, int slot, StringBuilder told) {
        tell(used, "restore " + slot, told);
        tellPersons(used, told);
        tellTrips(used, told);
        tellParcels(used, told);
    }

    private static void tellText(Used used, StringBuilder told) {
        tell(used, "carryOut", told);
        tellShortly(used, told);
    }

    @Override
    public String toString() {
        String all = String.join(", ", calls);
        return all.length() <= 400 ? all : all.substring(0, 200) + " .. " + all.substring(all.length() - 200);
    }
}
