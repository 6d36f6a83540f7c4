import java.util.ArrayDeque;
import java.util.ArrayList;
import java.util.Arrays;
import java.util.Deque;
import java.util.List;
import java.util.TreeMap;
import java.util.regex.Matcher;
import java.util.regex.Pattern;

/**
 * The document once more, told in another way: words with both their sides, every way tried, texts
 * by a pattern, whole copies for snapshots. RandomRunsTest holds the program against it.
 */
public final class Model {
    private static final Pattern ORDERS = Pattern.compile("(?:[gt]\\d{3}|[pf]\\d{2}|h)(?:;(?:[gt]\\d{3}|[pf]\\d{2}|h))*");

    private record Trip(int person, int from, int to, int leaves, int arrives, int fee) {
    }

    private record Post(int sender, int receiver, int town, int worth, int tier) {
    }

    private record Word(int giver, int taker) {
    }

    private record Way(int hour, int trips, int fees, int first) {
    }

    private static final class Facts {
        int hour;
        int fund;
        int handovers;
        int feesPaid;
        int[] coins = new int[8];
        int[] deposits = new int[8];
        int[] places = new int[8];
        int[] fees = new int[8];
        List<Trip> trips = new ArrayList<>();
        List<Integer> tripStates = new ArrayList<>();
        List<Post> posts = new ArrayList<>();
        List<Integer> postStates = new ArrayList<>();
        List<TreeMap<Integer, Integer>> holders = new ArrayList<>();
        List<Word> gave = new ArrayList<>();
        List<Word> took = new ArrayList<>();

        Facts copy() {
            Facts f = new Facts();
            f.hour = hour;
            f.fund = fund;
            f.handovers = handovers;
            f.feesPaid = feesPaid;
            f.coins = coins.clone();
            f.deposits = deposits.clone();
            f.places = places.clone();
            f.fees = fees.clone();
            f.trips = new ArrayList<>(trips);
            f.tripStates = new ArrayList<>(tripStates);
            f.posts = new ArrayList<>(posts);
            f.postStates = new ArrayList<>(postStates);
            for (TreeMap<Integer, Integer> held : holders) {
                f.holders.add(new TreeMap<>(held));
            }
            f.gave = new ArrayList<>(gave);
            f.took = new ArrayList<>(took);
            return f;
        }
    }

    private record Kept(Facts facts, Facts slot0, Facts slot1) {
    }

    private Facts f = new Facts();
    private Facts[] slots = new Facts[2];
    private final Deque<Kept> history = new ArrayDeque<>();
    private String text = "";

    public Model() {
        Arrays.fill(f.coins, 100);
        Arrays.fill(f.deposits, 40);
        for (int k = 0; k < 8; k++) {
            f.places[k] = k % 6;
        }
    }

    private static boolean bad(int x, int low, int high) {
        return x < low || x > high;
    }

    private boolean noParcel(int parcel) {
        return bad(parcel, 0, f.posts.size() - 1);
    }

    private void remember() {
        history.addLast(new Kept(f.copy(), slots[0], slots[1]));
        if (history.size() > 5) {
            history.removeFirst();
        }
    }

    private int holder(int parcel) {
        return f.holders.get(parcel).lastEntry().getValue();
    }

    private int since(int parcel) {
        return f.holders.get(parcel).lastKey();
    }

    private boolean underWay(int parcel) {
        return f.postStates.get(parcel) == 0;
    }

    private int load(int holder) {
        int n = 0;
        for (int i = 0; i < f.posts.size(); i++) {
            n += underWay(i) && holder(i) == holder ? 1 : 0;
        }
        return n;
    }

    /** A place from 100 on is the trip with which the person is on the road. */
    private boolean inTown(int person) {
        return f.places[person] < 100;
    }

    public int offer(int person, int from, int to, int in, int length, int fee) {
        if (bad(person, 0, 7) || bad(from, 0, 5) || bad(to, 0, 5) || from == to) {
            return -1;
        }
        if (bad(in, 1, 50) || bad(length, 1, 50) || bad(fee, 0, 99)) {
            return -1;
        }
        Trip offered = new Trip(person, from, to, f.hour + in, f.hour + in + length, fee);
        for (int i = 0; i < f.trips.size(); i++) {
            Trip t = f.trips.get(i);
            boolean apart = t.arrives <= offered.leaves || offered.arrives <= t.leaves;
            if (t.person == person && f.tripStates.get(i) < 2 && !apart) {
                return -2;
            }
        }
        if (f.trips.size() == 16) {
            return -3;
        }
        remember();
        f.trips.add(offered);
        f.tripStates.add(0);
        return f.trips.size() - 1;
    }

    public int takeBack(int trip) {
        if (bad(trip, 0, f.trips.size() - 1)) {
            return -1;
        }
        if (f.tripStates.get(trip) != 0) {
            return -2;
        }
        remember();
        f.tripStates.set(trip, 3);
        return f.trips.get(trip).leaves;
    }

    public int post(int sender, int receiver, int town, int worth, int tier) {
        if (bad(sender, 0, 7) || bad(receiver, 0, 7) || sender == receiver || bad(town, 0, 5)) {
            return -1;
        }
        if (bad(worth, 1, 999) || bad(tier, 0, 3)) {
            return -1;
        }
        int cost = List.of(0, 2, 5, 10).get(tier);
        if (!inTown(sender) || f.coins[sender] < cost || load(sender) == 3) {
            return -2;
        }
        if (f.posts.size() == 10) {
            return -3;
        }
        remember();
        f.coins[sender] -= cost;
        f.fund += cost;
        f.posts.add(new Post(sender, receiver, town, worth, tier));
        f.postStates.add(0);
        f.holders.add(new TreeMap<>());
        f.gave.add(null);
        f.took.add(null);
        int number = f.posts.size() - 1;
        f.holders.get(number).put(f.hour, sender);
        return number;
    }

    public int pass(int hours) {
        if (bad(hours, 1, 24)) {
            return -1;
        }
        if (f.hour > 500 - hours) {
            return -3;
        }
        remember();
        return passHours(hours);
    }

    private int passHours(int hours) {
        int done = 0;
        for (int end = f.hour + hours; f.hour < end;) {
            f.hour++;
            for (int i = 0; i < f.trips.size(); i++) {
                if (f.tripStates.get(i) == 1 && f.trips.get(i).arrives == f.hour) {
                    f.tripStates.set(i, 2);
                    f.places[f.trips.get(i).person] = f.trips.get(i).to;
                    done++;
                }
            }
            for (int i = 0; i < f.trips.size(); i++) {
                Trip t = f.trips.get(i);
                if (f.tripStates.get(i) == 0 && t.leaves == f.hour) {
                    boolean there = f.places[t.person] == t.from;
                    f.tripStates.set(i, there ? 1 : 3);
                    f.places[t.person] = there ? 100 + i : f.places[t.person];
                }
            }
        }
        return done;
    }

    private int handoverError(int giver, int parcel, int taker) {
        if (bad(giver, 0, 7) || bad(taker, 0, 7) || noParcel(parcel) || giver == taker) {
            return -1;
        }
        if (!underWay(parcel) || holder(parcel) != giver || load(taker) == 3) {
            return -2;
        }
        return inTown(giver) && f.places[giver] == f.places[taker] ? 0 : -2;
    }

    public int gave(int person, int parcel, int other) {
        int error = handoverError(person, parcel, other);
        if (error != 0) {
            return error;
        }
        remember();
        return say(f.gave, person, parcel, other);
    }

    public int took(int person, int parcel, int other) {
        int error = handoverError(other, parcel, person);
        if (error != 0) {
            return error;
        }
        remember();
        return say(f.took, other, parcel, person);
    }

    private int say(List<Word> words, int giver, int parcel, int taker) {
        words.set(parcel, new Word(giver, taker));
        if (f.gave.get(parcel) == null || !f.gave.get(parcel).equals(f.took.get(parcel))) {
            return 0;
        }
        handTo(parcel, taker);
        return 1;
    }

    private void handTo(int parcel, int taker) {
        f.handovers++;
        f.holders.get(parcel).put(f.hour, taker);
        f.gave.set(parcel, null);
        f.took.set(parcel, null);
        if (taker >= 10) {
            return;
        }
        Post p = f.posts.get(parcel);
        if (p.receiver == taker) {
            f.postStates.set(parcel, p.town == f.places[taker] ? 1 : 0);
            return;
        }
        Trip next = null;
        for (int i = 0; i < f.trips.size(); i++) {
            Trip t = f.trips.get(i);
            boolean counts = t.person == taker && f.tripStates.get(i) == 0 && t.from == f.places[taker];
            if (counts && (next == null || t.leaves < next.leaves)) {
                next = t;
            }
        }
        if (next != null) {
            int fee = Math.min(next.fee, f.coins[p.sender]);
            f.coins[p.sender] -= fee;
            f.coins[taker] += fee;
            f.fees[taker] += fee;
            f.feesPaid += fee;
        }
    }

    private int putInError(int person, int parcel) {
        if (bad(person, 0, 7) || noParcel(parcel)) {
            return -1;
        }
        if (!underWay(parcel) || holder(parcel) != person || !inTown(person)) {
            return -2;
        }
        return load(10 + f.places[person]) == 3 ? -3 : 0;
    }

    public int putIn(int person, int parcel) {
        int error = putInError(person, parcel);
        if (error != 0) {
            return error;
        }
        remember();
        handTo(parcel, 10 + f.places[person]);
        return load(10 + f.places[person]);
    }

    private int fetchError(int person, int parcel) {
        if (bad(person, 0, 7) || noParcel(parcel)) {
            return -1;
        }
        boolean there = underWay(parcel) && inTown(person) && holder(parcel) == 10 + f.places[person];
        return there && load(person) < 3 ? 0 : -2;
    }

    public int fetch(int person, int parcel) {
        int error = fetchError(person, parcel);
        if (error != 0) {
            return error;
        }
        remember();
        handTo(parcel, person);
        return load(10 + f.places[person]);
    }

    /** What the fund, the holder and the one whom its word names would pay. */
    private int[] shares(int parcel) {
        Post p = f.posts.get(parcel);
        int fund = Math.min(f.fund, Math.min(p.worth, List.of(0, 50, 200, 999).get(p.tier)));
        int missing = p.worth - fund;
        int holder = holder(parcel);
        Word word = f.gave.get(parcel);
        if (holder >= 10) {
            return new int[] {fund, 0, 0};
        }
        if (word == null) {
            return new int[] {fund, Math.min(missing, f.deposits[holder]), 0};
        }
        int greater = Math.min((missing + 1) / 2, f.deposits[holder]);
        return new int[] {fund, greater, Math.min(missing / 2, f.deposits[word.taker])};
    }

    public int claim(int parcel) {
        if (noParcel(parcel)) {
            return -1;
        }
        int sender = f.posts.get(parcel).sender;
        if (!underWay(parcel) || holder(parcel) == sender || since(parcel) > f.hour - 10) {
            return -2;
        }
        remember();
        int[] shares = shares(parcel);
        f.fund -= shares[0];
        if (shares[1] > 0) {
            f.deposits[holder(parcel)] -= shares[1];
        }
        if (shares[2] > 0) {
            f.deposits[f.gave.get(parcel).taker] -= shares[2];
        }
        int all = Arrays.stream(shares).sum();
        f.coins[sender] += all;
        f.postStates.set(parcel, 2);
        f.gave.set(parcel, null);
        f.took.set(parcel, null);
        return all;
    }

    public int take(int slot) {
        if (bad(slot, 0, 1)) {
            return -1;
        }
        remember();
        slots[slot] = f.copy();
        return f.hour;
    }

    public int restore(int slot) {
        if (bad(slot, 0, 1)) {
            return -1;
        }
        if (slots[slot] == null) {
            return -2;
        }
        remember();
        f = slots[slot].copy();
        return f.hour;
    }

    public int undo() {
        if (history.isEmpty()) {
            return -2;
        }
        Kept kept = history.removeLast();
        f = kept.facts;
        slots = new Facts[] {kept.slot0, kept.slot1};
        return history.size();
    }

    public int append(int character) {
        if (bad(character, 1, 255)) {
            return -1;
        }
        if (text.length() == 80) {
            return -3;
        }
        text += (char) character;
        return text.length();
    }

    public int clearText() {
        int length = text.length();
        text = "";
        return length;
    }

    /** The first sign with which no text of orders goes on. */
    private int fault() {
        for (int i = 0; i < text.length(); i++) {
            Matcher begun = ORDERS.matcher(text.substring(0, i + 1));
            if (!begun.matches() && !begun.hitEnd()) {
                return i;
            }
        }
        return ORDERS.matcher(text).matches() ? -1 : text.length();
    }

    public int carryOut() {
        int fault = fault();
        if (fault >= 0) {
            return -1000 - fault;
        }
        remember();
        int done = 0;
        for (String order : text.split(";")) {
            if (!carryOut(order)) {
                break;
            }
            done++;
        }
        text = "";
        return done;
    }

    private boolean carryOut(String order) {
        int a = order.length() > 1 ? order.charAt(1) - '0' : 0;
        int b = order.length() > 2 ? order.charAt(2) - '0' : 0;
        int c = order.length() > 3 ? order.charAt(3) - '0' : 0;
        int error = switch (order.charAt(0)) {
            case 'g' -> handoverError(a, b, c);
            case 't' -> handoverError(c, b, a);
            case 'p' -> putInError(a, b);
            case 'f' -> fetchError(a, b);
            default -> f.hour == 500 ? -3 : 0;
        };
        if (error != 0) {
            return false;
        }
        switch (order.charAt(0)) {
            case 'g' -> say(f.gave, a, b, c);
            case 't' -> say(f.took, c, b, a);
            case 'p' -> handTo(b, 10 + f.places[a]);
            case 'f' -> handTo(b, a);
            default -> passHours(1);
        }
        return true;
    }

    private static int times(List<Integer> states, int state) {
        return (int) states.stream().filter(s -> s == state).count();
    }

    public int count(int what) {
        return switch (what) {
            case 0 -> f.hour;
            case 1 -> f.trips.size();
            case 2, 3, 4 -> times(f.tripStates, what - 2);
            case 5 -> f.posts.size();
            case 6, 7, 8 -> times(f.postStates, what - 6);
            case 9 -> f.fund;
            case 10 -> Arrays.stream(f.coins).sum() + Arrays.stream(f.deposits).sum();
            case 11 -> f.handovers;
            case 12 -> f.feesPaid;
            case 13 -> (slots[0] == null ? 0 : 1) + (slots[1] == null ? 0 : 1);
            case 14 -> history.size();
            case 15 -> text.length();
            default -> -1;
        };
    }

    public int trip(int trip, int what) {
        if (bad(trip, 0, f.trips.size() - 1) || bad(what, 0, 6)) {
            return -1;
        }
        Trip t = f.trips.get(trip);
        return List.of(t.person, t.from, t.to, t.leaves, t.arrives, t.fee, f.tripStates.get(trip)).get(what);
    }

    public int person(int person, int what) {
        if (bad(person, 0, 7) || bad(what, 0, 5)) {
            return -1;
        }
        int town = inTown(person) ? f.places[person] : -9;
        int trip = inTown(person) ? -9 : f.places[person] - 100;
        return List.of(f.coins[person], f.deposits[person], town, trip, load(person), f.fees[person]).get(what);
    }

    private int town(int parcel) {
        int holder = holder(parcel);
        if (!underWay(parcel) || holder < 10 && !inTown(holder)) {
            return -9;
        }
        return holder < 10 ? f.places[holder] : holder - 10;
    }

    public int parcel(int parcel, int what) {
        if (noParcel(parcel) || bad(what, 0, 10)) {
            return -1;
        }
        Post p = f.posts.get(parcel);
        int gave = f.gave.get(parcel) == null ? -9 : f.gave.get(parcel).taker;
        int took = f.took.get(parcel) == null ? -9 : f.took.get(parcel).taker;
        int[] told = {p.sender, p.receiver, p.town, p.worth, p.tier, f.postStates.get(parcel),
            holder(parcel), since(parcel), gave, took, town(parcel)};
        return told[what];
    }

    public int holderAt(int parcel, int hour) {
        if (noParcel(parcel) || bad(hour, 0, f.hour)) {
            return -1;
        }
        var held = f.holders.get(parcel).floorEntry(hour);
        return held == null ? -9 : held.getValue();
    }

    public int inLocker(int town) {
        return bad(town, 0, 5) ? -1 : load(10 + town);
    }

    private List<Way> ways(int parcel) {
        List<Way> found = new ArrayList<>();
        int town = town(parcel);
        int hour = f.hour;
        if (town == -9) {
            Trip t = f.trips.get(f.places[holder(parcel)] - 100);
            town = t.to;
            hour = t.arrives;
        }
        goOn(new Way(hour, 0, 0, -9), town, f.posts.get(parcel).town, found);
        return found;
    }

    private void goOn(Way so, int town, int destination, List<Way> found) {
        if (town == destination) {
            found.add(so);
            return;
        }
        for (int i = 0; i < f.trips.size(); i++) {
            Trip t = f.trips.get(i);
            if (f.tripStates.get(i) == 0 && t.from == town && t.leaves >= so.hour && t.leaves > f.hour) {
                int first = so.trips == 0 ? i : so.first;
                goOn(new Way(t.arrives, so.trips + 1, so.fees + t.fee, first), t.to, destination, found);
            }
        }
    }

    public int earliest(int parcel, int what) {
        if (noParcel(parcel) || bad(what, 0, 2)) {
            return -1;
        }
        if (!underWay(parcel)) {
            return -2;
        }
        List<Way> ways = ways(parcel);
        int hour = ways.stream().mapToInt(Way::hour).min().orElse(-9);
        ways.removeIf(w -> w.hour != hour);
        return switch (what) {
            case 0 -> hour;
            case 1 -> ways.stream().mapToInt(Way::trips).min().orElse(-9);
            default -> ways.stream().mapToInt(Way::first).min().orElse(-9);
        };
    }

    public int cheapest(int parcel, int what) {
        if (noParcel(parcel) || bad(what, 0, 1)) {
            return -1;
        }
        if (!underWay(parcel)) {
            return -2;
        }
        List<Way> ways = ways(parcel);
        int fees = ways.stream().mapToInt(Way::fees).min().orElse(-9);
        ways.removeIf(w -> w.fees != fees);
        return what == 0 ? fees : ways.stream().mapToInt(Way::hour).min().orElse(-9);
    }

    public int wouldClaim(int parcel, int what) {
        if (noParcel(parcel) || bad(what, 0, 2)) {
            return -1;
        }
        if (!underWay(parcel) || holder(parcel) == f.posts.get(parcel).sender) {
            return -2;
        }
        return shares(parcel)[what];
    }
}
