/** For each promise: ordinary inputs, the edges that the document names, and wrong inputs. */
public final class PromisesTest {
    private static final int INVALID = -1;
    private static final int ILLEGAL = -2;
    private static final int FULL = -3;
    private static final int NONE = -9;
    private static final int LOWEST = Integer.MIN_VALUE;
    private static final int HIGHEST = Integer.MAX_VALUE;

    private static final Checks CHECKS = new Checks();

    public static void main(String[] args) {
        newObject();
        offerNumbers();
        offerOverlaps();
        offerFull();
        takeBack();
        post();
        postIllegal();
        pass();
        passVoids();
        passLimit();
        gave();
        gaveIllegal();
        took();
        tookIllegal();
        wordsFall();
        delivery();
        fees();
        feesOfThePoor();
        putIn();
        fetch();
        fetchFees();
        claim();
        claimByHalves();
        claimLocker();
        take();
        restore();
        rowsUsedAgain();
        undo();
        undoSlots();
        append();
        clearText();
        faults();
        carryOut();
        carryOutStops();
        carryOutHours();
        count();
        trip();
        person();
        parcel();
        holderAt();
        inLocker();
        earliest();
        earliestRoundabout();
        earliestOnTheRoad();
        cheapest();
        cheapestTies();
        waysOfSeveralParcels();
        waysAtTheEnd();
        wouldClaim();
        CHECKS.end();
    }

    private static void due(String what, long got, long want) {
        CHECKS.due(what, got, want);
    }

    private static RelayParcels fresh() {
        return new RelayParcels();
    }

    private static void write(RelayParcels x, String text) {
        for (int i = 0; i < text.length(); i++) {
            x.append(text.charAt(i));
        }
    }

    private static int carryOut(String text) {
        RelayParcels x = fresh();
        write(x, text);
        return x.carryOut();
    }

    private static void passMany(RelayParcels x, int hours) {
        for (int left = hours; left > 0; left -= 20) {
            x.pass(Math.min(left, 20));
        }
    }

    // ---- promise 1

    private static void newObject() {
        RelayParcels x = fresh();
        for (int what = 0; what <= 15; what++) {
            due("new: count " + what, x.count(what), what == 10 ? 8 * 140 : 0);
        }
        for (int k = 0; k < 8; k++) {
            due("new: coins", x.person(k, 0), 100);
            due("new: deposit", x.person(k, 1), 40);
            due("new: town", x.person(k, 2), k % 6);
            due("new: trip", x.person(k, 3), NONE);
            due("new: parcels", x.person(k, 4), 0);
            due("new: fees", x.person(k, 5), 0);
        }
        for (int town = 0; town < 6; town++) {
            due("new: locker", x.inLocker(town), 0);
        }
        due("new: no trip", x.trip(0, 0), INVALID);
        due("new: no parcel", x.parcel(0, 0), INVALID);
        due("constant", RelayParcels.INVALID_ARGUMENT, INVALID);
        due("constant", RelayParcels.ILLEGAL_STATE, ILLEGAL);
        due("constant", RelayParcels.CAPACITY_EXCEEDED, FULL);
        due("constant", RelayParcels.NONE, NONE);
    }

    // ---- promise 2

    private static void offerNumbers() {
        RelayParcels x = fresh();
        int[] low = {0, 0, 0, 1, 1, 0};
        int[] high = {7, 5, 5, 50, 50, 99};
        for (int which = 0; which < 6; which++) {
            for (int wrong : new int[] {low[which] - 1, high[which] + 1, LOWEST, HIGHEST}) {
                int[] a = {0, 0, 1, 1, 1, 1};
                a[which] = wrong;
                due("offer with " + which + " = " + wrong, x.offer(a[0], a[1], a[2], a[3], a[4], a[5]), INVALID);
            }
        }
        due("offer to the same town", x.offer(0, 3, 3, 1, 1, 1), INVALID);
        due("nothing recorded", x.count(14), 0);
        due("offer least", x.offer(0, 0, 5, 1, 1, 0), 0);
        due("offer most", x.offer(7, 5, 0, 50, 50, 99), 1);
        due("recorded", x.count(14), 2);
        x.pass(3);
        due("offer later", x.offer(1, 1, 2, 4, 5, 6), 2);
        int[] told = {1, 1, 2, 7, 12, 6, 0};
        for (int what = 0; what < told.length; what++) {
            due("offered: " + what, x.trip(2, what), told[what]);
        }
    }

    private static void offerOverlaps() {
        RelayParcels x = fresh();
        due("offer 5 to 10", x.offer(0, 0, 1, 5, 5, 0), 0);
        due("the same", x.offer(0, 0, 1, 5, 5, 0), ILLEGAL);
        due("within", x.offer(0, 0, 1, 7, 1, 0), ILLEGAL);
        due("around", x.offer(0, 0, 1, 4, 7, 0), ILLEGAL);
        due("into its begin", x.offer(0, 0, 1, 4, 2, 0), ILLEGAL);
        due("out of its end", x.offer(0, 0, 1, 9, 2, 0), ILLEGAL);
        due("invalid first", x.offer(0, 0, 0, 9, 2, 0), INVALID);
        due("up to its begin", x.offer(0, 0, 1, 4, 1, 0), 1);
        due("from its end", x.offer(0, 0, 1, 10, 1, 0), 2);
        due("another person", x.offer(1, 0, 1, 5, 5, 0), 3);
        x.takeBack(0);
        due("in place of a void one", x.offer(0, 0, 1, 5, 5, 0), 4);
        x.takeBack(1);
        x.pass(6);
        due("over one on the road", x.offer(0, 0, 1, 3, 1, 0), ILLEGAL);
        due("after one on the road", x.offer(0, 0, 1, 5, 1, 0), 5);
        x.pass(4);
        due("is done", x.trip(4, 6), 2);
    }

    private static void offerFull() {
        RelayParcels x = fresh();
        for (int i = 0; i < 16; i++) {
            due("offer " + i, x.offer(i % 8, 0, 1, 1 + i / 8, 1, 0), i);
        }
        due("invalid first", x.offer(0, 0, 1, 0, 1, 0), INVALID);
        due("illegal before full", x.offer(0, 0, 1, 1, 1, 0), ILLEGAL);
        due("full", x.offer(0, 0, 1, 20, 1, 0), FULL);
        x.takeBack(3);
        due("full with a void one", x.offer(0, 0, 1, 20, 1, 0), FULL);
    }

    // ---- promise 3

    private static void takeBack() {
        RelayParcels x = fresh();
        x.pass(2);
        x.offer(0, 0, 1, 7, 1, 3);
        x.offer(1, 1, 2, 1, 3, 3);
        due("no such trip", x.takeBack(2), INVALID);
        due("no such trip", x.takeBack(-1), INVALID);
        due("no such trip", x.takeBack(HIGHEST), INVALID);
        due("taken back", x.takeBack(0), 9);
        due("is void", x.trip(0, 6), 3);
        due("again", x.takeBack(0), ILLEGAL);
        x.pass(1);
        due("on the road", x.takeBack(1), ILLEGAL);
        x.pass(3);
        due("done", x.takeBack(1), ILLEGAL);
        x.pass(4);
        due("stays where it is", x.person(0, 2), 0);
        due("stays void", x.trip(0, 6), 3);
    }

    // ---- promise 4

    private static void post() {
        RelayParcels x = fresh();
        int[] low = {0, 0, 0, 1, 0};
        int[] high = {7, 7, 5, 999, 3};
        for (int which = 0; which < 5; which++) {
            for (int wrong : new int[] {low[which] - 1, high[which] + 1, LOWEST, HIGHEST}) {
                int[] a = {0, 1, 1, 1, 1};
                a[which] = wrong;
                due("post with " + which + " = " + wrong, x.post(a[0], a[1], a[2], a[3], a[4]), INVALID);
            }
        }
        due("to itself", x.post(3, 3, 1, 1, 1), INVALID);
        due("nothing recorded", x.count(14), 0);
        x.pass(3);
        int[] costs = {0, 2, 5, 10};
        for (int tier = 0; tier < 4; tier++) {
            due("post tier " + tier, x.post(tier, 7, 5, 999, tier), tier);
            due("coins left", x.person(tier, 0), 100 - costs[tier]);
        }
        due("fund", x.count(9), 17);
        int[] told = {2, 7, 5, 999, 2, 0, 2, 3, NONE, NONE, 2};
        for (int what = 0; what < told.length; what++) {
            due("posted: " + what, x.parcel(2, what), told[what]);
        }
        due("least", x.post(7, 0, 0, 1, 0), 4);
        due("handovers", x.count(11), 0);
        for (int i = 5; i < 10; i++) {
            due("post " + i, x.post(i - 2, 0, 1, 1, 0), i);
        }
        due("invalid first", x.post(0, 0, 1, 1, 0), INVALID);
        due("full", x.post(0, 1, 1, 1, 0), FULL);
        x.post(4, 0, 1, 1, 0);
    }

    private static void postIllegal() {
        RelayParcels x = fresh();
        x.offer(1, 1, 2, 1, 2, 0);
        x.pass(1);
        due("on the road", x.post(1, 0, 0, 1, 0), ILLEGAL);
        x.pass(1);
        due("still on the road", x.post(1, 0, 0, 1, 0), ILLEGAL);
        x.pass(1);
        due("there", x.post(1, 0, 0, 1, 0), 0);
        for (int i = 0; i < 3; i++) {
            due("post", x.post(0, 1, 0, 1, 0), 1 + i);
        }
        due("holds 3", x.post(0, 1, 0, 1, 0), ILLEGAL);
        x.putIn(0, 2);
        due("holds 2", x.post(0, 1, 0, 1, 0), 4);
        for (int i = 0; i < 5; i++) {
            due("post", x.post(2 + i, 1, 0, 1, 0), 5 + i);
        }
        due("illegal before full", x.post(0, 1, 0, 1, 0), ILLEGAL);
        due("full", x.post(7, 1, 0, 1, 0), FULL);
        tooPoor();
    }

    /** Leaves person 0 with 9 coins: the fee takes what its cover left of 100. */
    private static RelayParcels withNineCoins() {
        RelayParcels x = fresh();
        x.offer(6, 0, 1, 50, 1, 91);
        x.post(0, 1, 1, 1, 0);
        x.gave(0, 0, 6);
        x.took(6, 0, 0);
        return x;
    }

    private static void tooPoor() {
        RelayParcels x = withNineCoins();
        due("nine coins", x.person(0, 0), 9);
        due("cover of 10", x.post(0, 1, 1, 1, 3), ILLEGAL);
        due("cover of 5", x.post(0, 1, 1, 1, 2), 1);
        due("cover of 5", x.post(0, 1, 1, 1, 2), ILLEGAL);
        due("cover of 2", x.post(0, 1, 1, 1, 1), 2);
        x.putIn(0, 2);
        due("cover of 2, all its coins", x.post(0, 1, 1, 1, 1), 3);
        due("no coins", x.person(0, 0), 0);
        x.putIn(0, 3);
        due("cover of 2", x.post(0, 1, 1, 1, 1), ILLEGAL);
        due("no cover", x.post(0, 1, 1, 1, 0), 4);
    }

    // ---- promise 5

    private static void pass() {
        RelayParcels x = fresh();
        for (int wrong : new int[] {0, 25, -1, LOWEST, HIGHEST}) {
            due("pass " + wrong, x.pass(wrong), INVALID);
        }
        x.offer(0, 0, 1, 1, 3, 0);
        x.offer(1, 1, 2, 2, 2, 0);
        x.offer(0, 1, 2, 4, 1, 0);
        due("pass 1", x.pass(1), 0);
        due("leaves", x.trip(0, 6), 1);
        due("on the road", x.person(0, 2), NONE);
        due("its trip", x.person(0, 3), 0);
        due("not yet", x.trip(1, 6), 0);
        due("pass 2", x.pass(2), 0);
        due("both on the road", x.count(3), 2);
        due("pass 1", x.pass(1), 2);
        due("leaves again at once", x.trip(2, 6), 1);
        due("its trip", x.person(0, 3), 2);
        due("there", x.person(1, 2), 2);
        due("no trip", x.person(1, 3), NONE);
        due("pass 24", x.pass(24), 1);
        due("hour", x.count(0), 28);
        due("there", x.person(0, 2), 2);
    }

    private static void passVoids() {
        RelayParcels x = fresh();
        x.offer(0, 1, 2, 1, 3, 0);
        x.offer(1, 1, 2, 1, 5, 0);
        x.offer(1, 1, 3, 6, 1, 0);
        x.pass(1);
        due("not in its town", x.trip(0, 6), 3);
        due("stays", x.person(0, 2), 0);
        due("pass 5", x.pass(5), 1);
        due("came elsewhere", x.trip(2, 6), 3);
        due("stays there", x.person(1, 2), 2);
        due("pass 1", x.pass(1), 0);
    }

    private static void passLimit() {
        RelayParcels x = fresh();
        passMany(x, 480);
        due("too far", x.pass(21), FULL);
        due("invalid first", x.pass(25), INVALID);
        due("hour", x.count(0), 480);
        due("to the last hour", x.pass(20), 0);
        due("hour", x.count(0), 500);
        due("no further", x.pass(1), FULL);
        write(x, "h");
        due("no further by an order", x.carryOut(), 0);
        due("offers go on", x.offer(0, 0, 1, 50, 50, 0), 0);
        due("arrives", x.trip(0, 4), 600);
        due("last hour's holder", x.post(0, 1, 1, 1, 0), 0);
        due("holder", x.holderAt(0, 500), 0);
        due("not posted", x.holderAt(0, 499), NONE);
    }

    // ---- promises 6 and 7: persons 0 and 6 are in town 0, 1 and 7 in town 1

    private static void gave() {
        RelayParcels x = fresh();
        x.post(0, 3, 3, 10, 0);
        for (int wrong : new int[] {-1, 8, LOWEST, HIGHEST}) {
            due("giver " + wrong, x.gave(wrong, 0, 6), INVALID);
            due("other " + wrong, x.gave(0, 0, wrong), INVALID);
        }
        for (int wrong : new int[] {-1, 1, 10, LOWEST, HIGHEST}) {
            due("parcel " + wrong, x.gave(0, wrong, 6), INVALID);
        }
        due("to itself", x.gave(0, 0, 0), INVALID);
        due("to itself, not the holder", x.gave(2, 0, 2), INVALID);
        due("gave", x.gave(0, 0, 6), 0);
        due("its word", x.parcel(0, 8), 6);
        due("no other word", x.parcel(0, 9), NONE);
        due("still holds", x.parcel(0, 6), 0);
        due("again", x.gave(0, 0, 6), 0);
        x.pass(2);
        due("counts", x.took(6, 0, 0), 1);
        due("holds", x.parcel(0, 6), 6);
        due("since", x.parcel(0, 7), 2);
        due("no word", x.parcel(0, 8), NONE);
        due("no word", x.parcel(0, 9), NONE);
        due("handovers", x.count(11), 1);
        due("under way", x.parcel(0, 5), 0);
        due("back", x.gave(6, 0, 0), 0);
        due("back", x.took(0, 0, 6), 1);
        due("handovers", x.count(11), 2);
    }

    private static void gaveIllegal() {
        RelayParcels x = fresh();
        for (int i = 0; i < 3; i++) {
            x.post(6, 3, 3, 10, 0);
        }
        x.post(0, 3, 3, 10, 0);
        due("holds 3", x.gave(0, 3, 6), ILLEGAL);
        due("not the holder", x.gave(6, 3, 0), ILLEGAL);
        due("not in one town", x.gave(0, 3, 1), ILLEGAL);
        x.putIn(6, 0);
        due("holds 2", x.gave(0, 3, 6), 0);
        x.putIn(0, 3);
        due("in a locker", x.gave(0, 3, 6), ILLEGAL);
        x.offer(0, 0, 1, 1, 9, 0);
        x.offer(6, 0, 1, 1, 9, 0);
        x.pass(1);
        due("both on the road", x.gave(6, 1, 0), ILLEGAL);
        due("both on the road", x.took(0, 1, 6), ILLEGAL);
        x.pass(9);
        due("a full hour on", x.gave(6, 1, 0), 0);
        x.took(0, 1, 6);
        x.pass(10);
        x.claim(1);
        due("lost", x.gave(0, 1, 6), ILLEGAL);
    }

    private static void took() {
        RelayParcels x = fresh();
        x.post(0, 3, 3, 10, 0);
        for (int wrong : new int[] {-1, 8, LOWEST, HIGHEST}) {
            due("taker " + wrong, x.took(wrong, 0, 0), INVALID);
            due("holder " + wrong, x.took(6, 0, wrong), INVALID);
        }
        for (int wrong : new int[] {-1, 1, 10, LOWEST, HIGHEST}) {
            due("parcel " + wrong, x.took(6, wrong, 0), INVALID);
        }
        due("from itself", x.took(0, 0, 0), INVALID);
        due("took", x.took(6, 0, 0), 0);
        due("its word", x.parcel(0, 9), 6);
        due("no other word", x.parcel(0, 8), NONE);
        due("counts", x.gave(0, 0, 6), 1);
        due("holds", x.parcel(0, 6), 6);
    }

    private static void tookIllegal() {
        RelayParcels x = fresh();
        for (int i = 0; i < 3; i++) {
            x.post(6, 3, 3, 10, 0);
        }
        x.post(0, 3, 3, 10, 0);
        due("holds 3", x.took(6, 3, 0), ILLEGAL);
        due("not from the holder", x.took(0, 0, 1), ILLEGAL);
        due("not in one town", x.took(1, 3, 0), ILLEGAL);
        x.putIn(0, 3);
        due("in a locker", x.took(6, 3, 0), ILLEGAL);
        due("holder has 3, which is no matter", x.took(0, 0, 6), 0);
    }

    private static void wordsFall() {
        RelayParcels x = fresh();
        x.offer(7, 1, 0, 1, 1, 0);
        x.pass(2);
        x.post(0, 3, 3, 10, 0);
        due("gave to 6", x.gave(0, 0, 6), 0);
        due("7 took: no fit", x.took(7, 0, 0), 0);
        due("both words stand", x.parcel(0, 8) * 10 + x.parcel(0, 9), 67);
        due("gave to 7 after all", x.gave(0, 0, 7), 1);
        due("holds", x.parcel(0, 6), 7);
        due("6's turn", x.gave(7, 0, 6), 0);
        x.putIn(7, 0);
        due("the word fell", x.parcel(0, 8), NONE);
        x.fetch(7, 0);
        due("it doesn't come back", x.took(6, 0, 7), 0);
        due("0 takes instead", x.took(0, 0, 7), 0);
        due("6's word is replaced", x.gave(7, 0, 6), 0);
        due("fits now", x.took(6, 0, 7), 1);
        due("gave to 7", x.gave(6, 0, 7), 0);
        x.offer(7, 0, 1, 1, 2, 0);
        x.pass(2);
        due("the word stands on the road", x.parcel(0, 8), 7);
        x.offer(6, 0, 1, 1, 2, 0);
        x.pass(3);
        due("fits in another town", x.took(7, 0, 6), 1);
    }

    private static void delivery() {
        RelayParcels x = fresh();
        x.post(0, 6, 0, 10, 0);
        x.post(0, 6, 1, 10, 0);
        x.pass(4);
        x.gave(0, 0, 6);
        due("handed to the receiver", x.took(6, 0, 0), 1);
        due("delivered", x.parcel(0, 5), 1);
        due("holder", x.parcel(0, 6), 6);
        due("since", x.parcel(0, 7), 4);
        due("no town", x.parcel(0, 10), NONE);
        due("holds none", x.person(6, 4), 0);
        x.took(6, 1, 0);
        due("handed elsewhere", x.gave(0, 1, 6), 1);
        due("under way", x.parcel(1, 5), 0);
        due("holds one", x.person(6, 4), 1);
        due("delivered ones", x.count(7), 1);
        due("no more", x.gave(6, 0, 0), ILLEGAL);
        due("no more", x.putIn(6, 0), ILLEGAL);
        due("no more", x.claim(0), ILLEGAL);
    }

    // ---- fees (terms of the promises 6, 7 and 9)

    private static void fees() {
        RelayParcels x = fresh();
        x.offer(6, 0, 3, 9, 1, 30);
        x.offer(6, 0, 2, 5, 1, 20);
        x.offer(6, 1, 2, 3, 1, 10);
        x.offer(6, 0, 1, 1, 1, 5);
        x.takeBack(3);
        x.offer(0, 0, 1, 40, 1, 12);
        x.post(0, 3, 3, 10, 0);
        x.gave(0, 0, 6);
        x.took(6, 0, 0);
        due("paid by the sender", x.person(0, 0), 80);
        due("to the carrier", x.person(6, 0), 120);
        due("got", x.person(6, 5), 20);
        due("fees", x.count(12), 20);
        x.gave(6, 0, 0);
        x.took(0, 0, 6);
        due("to itself", x.person(0, 0), 80);
        due("got", x.person(0, 5), 12);
        due("fees", x.count(12), 32);
        RelayParcels y = fresh();
        y.offer(6, 0, 3, 9, 1, 30);
        y.post(0, 6, 3, 10, 0);
        y.gave(0, 0, 6);
        y.took(6, 0, 0);
        due("none for the receiver", y.count(12), 0);
        y.gave(6, 0, 0);
        y.took(0, 0, 6);
        due("none without a trip", y.count(12), 0);
        y.offer(1, 2, 3, 9, 1, 30);
        y.post(7, 0, 3, 10, 0);
        y.gave(7, 1, 1);
        y.took(1, 1, 7);
        due("none for a trip from elsewhere", y.count(12), 0);
    }

    private static void feesOfThePoor() {
        RelayParcels x = withNineCoins();
        due("fees", x.count(12), 91);
        x.post(0, 3, 3, 10, 0);
        x.gave(0, 1, 6);
        due("counts all the same", x.took(6, 1, 0), 1);
        due("all its coins", x.person(0, 0), 0);
        due("fees", x.person(6, 5), 100);
        due("coins", x.person(6, 0), 200);
        due("fees", x.count(12), 100);
        x.gave(6, 1, 0);
        x.took(0, 1, 6);
        x.gave(0, 1, 6);
        due("with nothing to pay", x.took(6, 1, 0), 1);
        due("fees", x.count(12), 100);
    }

    // ---- promises 8 and 9

    private static void putIn() {
        RelayParcels x = fresh();
        for (int i = 0; i < 3; i++) {
            x.post(0, 1, 0, 10, 0);
        }
        x.post(6, 0, 0, 10, 0);
        for (int wrong : new int[] {-1, 8, LOWEST, HIGHEST}) {
            due("person " + wrong, x.putIn(wrong, 0), INVALID);
        }
        for (int wrong : new int[] {-1, 4, LOWEST, HIGHEST}) {
            due("parcel " + wrong, x.putIn(0, wrong), INVALID);
        }
        due("not the holder", x.putIn(6, 0), ILLEGAL);
        x.gave(0, 0, 6);
        x.pass(2);
        for (int i = 0; i < 3; i++) {
            due("put in", x.putIn(0, i), i + 1);
        }
        due("in there already", x.putIn(0, 0), ILLEGAL);
        due("illegal before full", x.putIn(0, 3), ILLEGAL);
        due("full", x.putIn(6, 3), FULL);
        due("holder", x.parcel(0, 6), 10);
        due("since", x.parcel(0, 7), 2);
        due("town", x.parcel(0, 10), 0);
        due("no word", x.parcel(0, 8), NONE);
        due("handovers", x.count(11), 3);
        due("at the destination it isn't delivered", x.count(7), 0);
        x.offer(6, 0, 5, 1, 3, 0);
        x.pass(1);
        due("on the road", x.putIn(6, 3), ILLEGAL);
        x.pass(3);
        due("in another town", x.putIn(6, 3), 1);
        due("holder", x.parcel(3, 6), 15);
        x.post(5, 1, 0, 10, 0);
        x.post(5, 1, 0, 10, 0);
        x.post(5, 1, 0, 10, 0);
        due("second", x.putIn(5, 4), 2);
        due("third", x.putIn(5, 5), 3);
        due("full there, too", x.putIn(5, 6), FULL);
    }

    private static void fetch() {
        RelayParcels x = fresh();
        x.post(1, 0, 0, 10, 0);
        for (int i = 0; i < 3; i++) {
            x.post(0, 6, 0, 10, 0);
        }
        for (int wrong : new int[] {-1, 8, LOWEST, HIGHEST}) {
            due("person " + wrong, x.fetch(wrong, 0), INVALID);
        }
        for (int wrong : new int[] {-1, 4, LOWEST, HIGHEST}) {
            due("parcel " + wrong, x.fetch(0, wrong), INVALID);
        }
        due("not in a locker", x.fetch(0, 1), ILLEGAL);
        x.putIn(1, 0);
        due("in another town", x.fetch(0, 0), ILLEGAL);
        x.offer(0, 0, 1, 1, 2, 0);
        x.pass(1);
        due("on the road", x.fetch(0, 0), ILLEGAL);
        x.pass(2);
        due("holds 3", x.fetch(0, 0), ILLEGAL);
        due("another one's", x.fetch(7, 0), 0);
        due("holds", x.parcel(0, 6), 7);
        due("since", x.parcel(0, 7), 3);
        x.putIn(7, 0);
        x.putIn(0, 1);
        due("the receiver, but elsewhere", x.fetch(0, 0), 1);
        due("under way", x.parcel(0, 5), 0);
        due("handovers", x.count(11), 5);
        x.offer(0, 1, 0, 1, 1, 0);
        x.pass(2);
        x.putIn(0, 0);
        x.putIn(0, 2);
        due("the receiver, there", x.fetch(0, 0), 1);
        due("delivered", x.parcel(0, 5), 1);
        due("no more in there", x.fetch(0, 0), ILLEGAL);
        due("another receiver", x.fetch(6, 2), 0);
        due("delivered", x.count(7), 2);
    }

    private static void fetchFees() {
        RelayParcels x = fresh();
        x.offer(6, 0, 3, 9, 1, 30);
        x.offer(0, 0, 3, 9, 1, 7);
        x.post(0, 6, 3, 10, 0);
        x.post(0, 3, 3, 10, 0);
        x.putIn(0, 0);
        x.putIn(0, 1);
        due("none for a locker", x.count(12), 0);
        x.fetch(6, 0);
        due("none for the receiver", x.count(12), 0);
        x.fetch(6, 1);
        due("for another one", x.person(6, 0), 130);
        due("from the sender", x.person(0, 0), 70);
        x.putIn(6, 1);
        x.fetch(0, 1);
        due("to itself", x.person(0, 5), 7);
        due("all fees", x.count(12), 37);
    }

    // ---- promise 10

    private static void claim() {
        RelayParcels x = fresh();
        x.post(0, 3, 3, 60, 1);
        due("no such parcel", x.claim(1), INVALID);
        due("no such parcel", x.claim(-1), INVALID);
        due("no such parcel", x.claim(HIGHEST), INVALID);
        x.pass(12);
        due("the sender holds it", x.claim(0), ILLEGAL);
        x.post(1, 3, 3, 60, 3);
        x.post(1, 3, 3, 60, 3);
        x.post(1, 3, 3, 60, 3);
        x.putIn(1, 1);
        x.post(1, 3, 3, 60, 3);
        x.putIn(1, 2);
        x.post(7, 3, 3, 60, 3);
        due("the fund", x.count(9), 52);
        x.gave(0, 0, 6);
        x.took(6, 0, 0);
        x.pass(9);
        due("too early", x.claim(0), ILLEGAL);
        x.pass(1);
        due("up to the cover, and the deposit", x.claim(0), 60);
        due("the fund", x.count(9), 2);
        due("the deposit", x.person(6, 1), 30);
        due("the coins", x.person(0, 0), 158);
        due("lost", x.parcel(0, 5), 2);
        due("holder", x.parcel(0, 6), 6);
        due("no town", x.parcel(0, 10), NONE);
        due("once", x.claim(0), ILLEGAL);
        due("holds none", x.person(6, 4), 0);
        due("all coins", x.count(10), 8 * 140 - 2);
    }

    private static void claimByHalves() {
        RelayParcels x = fresh();
        x.post(0, 3, 3, 31, 0);
        x.gave(0, 0, 6);
        x.took(6, 0, 0);
        x.offer(1, 1, 0, 1, 1, 0);
        x.pass(12);
        x.gave(6, 0, 1);
        due("the halves", x.claim(0), 31);
        due("the greater half", x.person(6, 1), 24);
        due("the smaller half", x.person(1, 1), 25);
        due("the words fell", x.parcel(0, 8), NONE);
        x.post(0, 3, 3, 61, 0);
        x.gave(0, 1, 6);
        x.took(6, 1, 0);
        x.gave(6, 1, 0);
        x.pass(10);
        due("as far as the deposits go", x.claim(1), 24 + 30);
        due("the holder's", x.person(6, 1), 0);
        due("the sender's own", x.person(0, 1), 10);
        due("the sender's coins", x.person(0, 0), 100 + 31 + 54);
        x.post(0, 3, 3, 61, 0);
        x.gave(0, 2, 1);
        x.took(1, 2, 0);
        x.took(6, 2, 1);
        x.pass(10);
        due("a word of the other kind is no matter", x.claim(2), 25);
        due("the word fell", x.parcel(2, 9), NONE);
    }

    private static void claimLocker() {
        RelayParcels x = fresh();
        x.post(0, 3, 3, 40, 2);
        x.gave(0, 0, 6);
        x.putIn(0, 0);
        x.pass(10);
        due("the fund alone", x.claim(0), 5);
        due("all deposits", x.count(10), 8 * 140);
        due("the locker is empty", x.inLocker(0), 0);
        due("not to be fetched", x.fetch(0, 0), ILLEGAL);
        x.post(1, 3, 3, 999, 0);
        x.post(1, 3, 3, 999, 1);
        x.putIn(1, 1);
        x.putIn(1, 2);
        x.pass(10);
        due("no cover", x.claim(1), 0);
        due("lost all the same", x.parcel(1, 5), 2);
        due("what is in the fund", x.claim(2), 2);
        due("lost ones", x.count(8), 3);
        small();
    }

    private static void small() {
        RelayParcels x = fresh();
        for (int i = 0; i < 3; i++) {
            x.post(i, 7, 5, 999, 3);
        }
        x.post(3, 7, 5, 8, 3);
        x.putIn(3, 3);
        x.pass(10);
        due("no more than the worth", x.claim(3), 8);
        due("the fund", x.count(9), 32);
        covers();
    }

    /** Ten parcels bring the fund 100 coins at most: the covers of the tiers 2 and 3 are never reached. */
    private static void covers() {
        RelayParcels x = fresh();
        for (int i = 0; i < 8; i++) {
            x.post(i, (i + 1) % 8, 5, 999, 3);
        }
        x.post(2, 7, 5, 999, 1);
        x.post(3, 7, 5, 30, 1);
        due("the fund", x.count(9), 84);
        x.putIn(2, 8);
        x.putIn(3, 9);
        due("the cover of tier 1", x.wouldClaim(8, 0), 50);
        due("a worth below it", x.wouldClaim(9, 0), 30);
        x.pass(10);
        due("the cover of tier 1", x.claim(8), 50);
        due("a worth below it", x.claim(9), 30);
        due("the fund", x.count(9), 4);
    }

    // ---- promises 11 to 13

    private static void take() {
        RelayParcels x = fresh();
        for (int wrong : new int[] {-1, 2, LOWEST, HIGHEST}) {
            due("slot " + wrong, x.take(wrong), INVALID);
        }
        x.pass(3);
        due("take", x.take(1), 3);
        due("snapshots", x.count(13), 1);
        due("an action", x.count(14), 2);
        x.pass(4);
        due("in its place", x.take(1), 7);
        due("snapshots", x.count(13), 1);
        x.pass(1);
        due("the other", x.take(0), 8);
        due("snapshots", x.count(13), 2);
        x.pass(1);
        due("the later one", x.restore(1), 7);
        due("the other", x.restore(0), 8);
    }

    private static void restore() {
        RelayParcels x = fresh();
        for (int wrong : new int[] {-1, 2, LOWEST, HIGHEST}) {
            due("slot " + wrong, x.restore(wrong), INVALID);
        }
        due("empty", x.restore(0), ILLEGAL);
        x.offer(6, 0, 3, 2, 8, 30);
        x.post(0, 3, 3, 60, 1);
        x.gave(0, 0, 6);
        x.take(0);
        x.take(1);
        x.took(6, 0, 0);
        x.pass(5);
        x.post(0, 3, 3, 60, 2);
        x.offer(1, 1, 3, 2, 8, 30);
        x.putIn(0, 1);
        write(x, "h;h");
        due("restored", x.restore(0), 0);
        due("trips", x.count(1), 1);
        due("trip", x.trip(0, 6), 0);
        due("no such trip", x.trip(1, 0), INVALID);
        due("parcels", x.count(5), 1);
        due("no such parcel", x.holderAt(1, 0), INVALID);
        due("fund", x.count(9), 2);
        due("handovers", x.count(11), 0);
        due("fees", x.count(12), 0);
        due("coins", x.person(0, 0), 98);
        due("coins", x.person(6, 0), 100);
        due("fees", x.person(6, 5), 0);
        due("town", x.person(6, 2), 0);
        due("holder", x.parcel(0, 6), 0);
        due("word", x.parcel(0, 8), 6);
        due("holder at", x.holderAt(0, 0), 0);
        due("later hour", x.holderAt(0, 1), INVALID);
        due("the text stays", x.count(15), 3);
        due("the slots stay", x.count(13), 2);
        due("the history goes on", x.count(14), 5);
        due("the word fits", x.took(6, 0, 0), 1);
        due("the snapshot stays", x.restore(0), 0);
        due("as it was", x.parcel(0, 6), 0);
        due("undone", x.undo(), 4);
        due("as before", x.parcel(0, 6), 6);
    }

    /** A number that is given anew begins anew, whatever it was before an undo or a restore. */
    private static void rowsUsedAgain() {
        RelayParcels x = fresh();
        x.take(0);
        x.offer(0, 0, 1, 1, 1, 0);
        x.post(0, 3, 0, 60, 1);
        x.pass(2);
        x.restore(0);
        due("the number anew", x.offer(1, 1, 2, 3, 1, 0), 0);
        due("offered", x.trip(0, 6), 0);
        x.post(0, 6, 0, 60, 1);
        x.gave(0, 0, 6);
        x.took(6, 0, 0);
        due("delivered", x.parcel(0, 5), 1);
        x.restore(0);
        due("the number anew", x.post(4, 0, 1, 5, 0), 0);
        due("under way", x.parcel(0, 5), 0);
        due("its holder", x.holderAt(0, 0), 4);
    }

    private static void undo() {
        RelayParcels x = fresh();
        due("nothing", x.undo(), ILLEGAL);
        x.pass(1);
        x.pass(30);
        x.undo();
        due("errors record nothing", x.undo(), ILLEGAL);
        for (int i = 1; i <= 7; i++) {
            x.pass(i);
            due("states", x.count(14), Math.min(i, 5));
        }
        write(x, "h");
        int hour = 28;
        for (int i = 7; i >= 3; i--) {
            due("undo", x.undo(), i - 3);
            hour -= i;
            due("hour", x.count(0), hour);
            due("states", x.count(14), i - 3);
        }
        due("the text stays", x.count(15), 1);
        due("the oldest are dropped", x.undo(), ILLEGAL);
        due("hour", x.count(0), 3);
        x.pass(1);
        due("from anew", x.undo(), 0);
        due("hour", x.count(0), 3);
        eachActionIsUndone();
    }

    private static void eachActionIsUndone() {
        RelayParcels x = fresh();
        due("offer", x.offer(6, 0, 3, 2, 8, 30), 0);
        due("undo", x.undo(), 0);
        due("no trip", x.count(1), 0);
        x.offer(6, 0, 3, 2, 8, 30);
        x.takeBack(0);
        x.undo();
        due("offered", x.trip(0, 6), 0);
        x.post(0, 3, 3, 60, 1);
        x.undo();
        due("no parcel", x.count(5), 0);
        due("coins", x.person(0, 0), 100);
        x.post(0, 3, 3, 60, 1);
        x.gave(0, 0, 6);
        x.undo();
        due("no word", x.parcel(0, 8), NONE);
        x.took(6, 0, 0);
        x.undo();
        due("no word", x.parcel(0, 9), NONE);
        x.putIn(0, 0);
        x.undo();
        due("holder", x.parcel(0, 6), 0);
        x.putIn(0, 0);
        x.fetch(6, 0);
        x.undo();
        due("holder", x.parcel(0, 6), 10);
        due("coins", x.person(6, 0), 100);
        x.pass(11);
        x.claim(0);
        x.undo();
        due("under way", x.parcel(0, 5), 0);
        due("fund", x.count(9), 2);
    }

    private static void undoSlots() {
        RelayParcels x = fresh();
        x.take(0);
        x.undo();
        due("no snapshot", x.count(13), 0);
        due("no snapshot", x.restore(0), ILLEGAL);
        x.pass(1);
        x.take(0);
        x.pass(1);
        x.take(0);
        due("the later", x.restore(0), 2);
        x.undo();
        x.undo();
        due("the earlier", x.restore(0), 1);
        x.undo();
        due("where it was", x.count(0), 2);
        x.take(1);
        x.restore(0);
        due("two", x.count(13), 2);
        x.undo();
        due("still two", x.count(13), 2);
        x.undo();
        due("one", x.count(13), 1);
        due("the other is empty", x.restore(1), ILLEGAL);
    }

    // ---- promises 14 to 16

    private static void append() {
        RelayParcels x = fresh();
        for (int wrong : new int[] {0, 256, -1, LOWEST, HIGHEST}) {
            due("append " + wrong, x.append(wrong), INVALID);
        }
        due("least", x.append(1), 1);
        due("most", x.append(255), 2);
        for (int i = 3; i <= 80; i++) {
            due("append", x.append('h'), i);
        }
        due("invalid first", x.append(0), INVALID);
        due("full", x.append('h'), FULL);
        due("length", x.count(15), 80);
        due("no action", x.count(14), 0);
    }

    private static void clearText() {
        RelayParcels x = fresh();
        due("empty", x.clearText(), 0);
        write(x, "g0");
        due("two", x.clearText(), 2);
        due("length", x.count(15), 0);
        due("no action", x.count(14), 0);
        write(x, "h");
        due("from anew", x.carryOut(), 1);
    }

    private static void faults() {
        due("empty", carryOut(""), -1000);
        due("no letter", carryOut("x"), -1000);
        due("capital", carryOut("H"), -1000);
        due("separator", carryOut(";"), -1000);
        due("blank", carryOut(" h"), -1000);
        due("a digit after h", carryOut("h1"), -1001);
        due("a letter after h", carryOut("hh"), -1001);
        due("ends after ;", carryOut("h;"), -1002);
        due("two ;", carryOut("h;;h"), -1002);
        due("g ends", carryOut("g"), -1001);
        due("g ends", carryOut("g0"), -1002);
        due("g ends", carryOut("g01"), -1003);
        due("g with four", carryOut("g0123"), -1004);
        due("t ends", carryOut("t01"), -1003);
        due("t with a letter", carryOut("t0a2"), -1002);
        due("t with four", carryOut("t0123"), -1004);
        due("p ends", carryOut("p0"), -1002);
        due("p with three", carryOut("p012"), -1003);
        due("f ends", carryOut("f"), -1001);
        due("f with three", carryOut("f012"), -1003);
        due("below 0", carryOut("p0/"), -1002);
        due("above 9", carryOut("p:0"), -1001);
        due("later", carryOut("h;p00;g000;q"), -1011);
        due("high signs", carryOut("h" + (char) 0xBB), -1001);
        RelayParcels x = fresh();
        write(x, "h;h;");
        due("a fault", x.carryOut(), -1004);
        due("changes nothing", x.count(0), 0);
        due("records nothing", x.count(14), 0);
        due("the text stays", x.count(15), 4);
        x.append('h');
        due("mended", x.carryOut(), 3);
        due("longest", carryOut("h;".repeat(38) + "h;p0"), -1080);
        due("longest without end", carryOut("h;".repeat(40)), -1080);
    }

    private static void carryOut() {
        RelayParcels x = fresh();
        x.post(0, 3, 3, 60, 1);
        x.offer(6, 0, 3, 8, 8, 30);
        int states = x.count(14);
        write(x, "g006;t600;p60;h;f00;t600;g006;h;h");
        due("orders", x.carryOut(), 9);
        due("hour", x.count(0), 3);
        due("holder", x.parcel(0, 6), 6);
        due("since", x.parcel(0, 7), 1);
        due("handovers", x.count(11), 4);
        due("fees", x.count(12), 60);
        due("one action", x.count(14), states + 1);
        due("the text is empty", x.count(15), 0);
        x.undo();
        due("all undone", x.parcel(0, 6), 0);
        due("all undone", x.count(0), 0);
        due("but not the text", x.count(15), 0);
        due("history", x.count(14), states);
    }

    private static void carryOutStops() {
        RelayParcels x = fresh();
        x.post(0, 3, 3, 60, 1);
        write(x, "p00;p00;h");
        due("up to an illegal one", x.carryOut(), 1);
        due("the later ones are not", x.count(0), 0);
        due("the first one is", x.inLocker(0), 1);
        due("the text is empty", x.count(15), 0);
        write(x, "g800;h");
        due("no such person", x.carryOut(), 0);
        due("one action all the same", x.count(14), 3);
        write(x, "h;t019;h");
        due("no such parcel, or person", x.carryOut(), 1);
        write(x, "h;p90;h");
        due("no such person", x.carryOut(), 1);
        write(x, "h;f01;h");
        due("no such parcel", x.carryOut(), 1);
        due("hours", x.count(0), 3);
        write(x, "f00;g006;t600");
        due("all", x.carryOut(), 3);
    }

    private static void carryOutHours() {
        RelayParcels x = fresh();
        passMany(x, 499);
        write(x, "h;h;h");
        due("up to the last hour", x.carryOut(), 1);
        due("hour", x.count(0), 500);
        RelayParcels y = fresh();
        y.offer(0, 0, 1, 1, 2, 3);
        write(y, "h;h;h");
        y.carryOut();
        due("trips run by orders", y.trip(0, 6), 2);
        due("trips run by orders", y.person(0, 2), 1);
        write(y, "h;".repeat(39) + "h");
        due("forty orders", y.carryOut(), 40);
        due("hour", y.count(0), 43);
    }

    // ---- promises 17 to 22

    private static void count() {
        RelayParcels x = fresh();
        for (int wrong : new int[] {-1, 16, LOWEST, HIGHEST}) {
            due("count " + wrong, x.count(wrong), INVALID);
        }
        for (int person = 0; person < 7; person++) {
            x.offer(person, person % 6, (person + 1) % 6, 1 + person, 4, 10);
        }
        x.takeBack(6);
        for (int parcel = 0; parcel < 5; parcel++) {
            x.post(parcel, (parcel + 1) % 8, parcel, 20, 1);
        }
        x.putIn(1, 1);
        x.putIn(2, 2);
        x.fetch(2, 2);
        x.gave(0, 0, 6);
        x.took(6, 0, 0);
        x.take(1);
        x.pass(6);
        x.putIn(3, 3);
        x.post(6, 0, 0, 20, 3);
        x.putIn(6, 5);
        x.fetch(0, 5);
        x.pass(6);
        x.claim(0);
        x.claim(1);
        x.pass(2);
        write(x, "h;");
        int[] told = {14, 7, 0, 0, 6, 6, 4, 0, 2, 0, 1120, 4, 10, 1, 5, 2};
        for (int what = 0; what < told.length; what++) {
            if (what == 9 || what == 10 || what == 11) {
                continue;
            }
            due("count " + what, x.count(what), told[what]);
        }
        due("all coins", x.count(9) + x.count(10), 1120);
        runningTrips();
    }

    private static void runningTrips() {
        RelayParcels x = fresh();
        x.offer(0, 0, 1, 1, 1, 0);
        x.offer(1, 1, 2, 2, 5, 0);
        x.offer(2, 2, 3, 3, 5, 0);
        x.offer(3, 3, 4, 4, 5, 0);
        x.offer(4, 0, 4, 2, 5, 0);
        x.pass(3);
        due("trips", x.count(1), 5);
        due("offered", x.count(2), 1);
        due("on the road", x.count(3), 2);
        due("done", x.count(4), 1);
        x.post(0, 7, 1, 5, 3);
        x.post(7, 0, 1, 5, 2);
        x.gave(0, 0, 7);
        x.took(7, 0, 0);
        due("parcels", x.count(5), 2);
        due("under way", x.count(6), 1);
        due("delivered", x.count(7), 1);
        due("lost", x.count(8), 0);
        due("fund", x.count(9), 15);
        due("all coins", x.count(10), 1105);
        due("handovers", x.count(11), 1);
    }

    private static void trip() {
        RelayParcels x = fresh();
        x.pass(2);
        x.offer(5, 4, 3, 9, 8, 77);
        int[] told = {5, 4, 3, 11, 19, 77, 0};
        for (int what = 0; what < told.length; what++) {
            due("trip " + what, x.trip(0, what), told[what]);
        }
        for (int wrong : new int[] {-1, 7, LOWEST, HIGHEST}) {
            due("what " + wrong, x.trip(0, wrong), INVALID);
        }
        for (int wrong : new int[] {-1, 1, 16, LOWEST, HIGHEST}) {
            due("trip " + wrong, x.trip(wrong, 0), INVALID);
        }
        x.pass(9);
        due("void", x.trip(0, 6), 3);
    }

    private static void person() {
        RelayParcels x = fresh();
        for (int wrong : new int[] {-1, 8, LOWEST, HIGHEST}) {
            due("person " + wrong, x.person(wrong, 0), INVALID);
        }
        for (int wrong : new int[] {-1, 6, LOWEST, HIGHEST}) {
            due("what " + wrong, x.person(0, wrong), INVALID);
        }
        x.offer(1, 2, 3, 1, 1, 0);
        x.offer(0, 0, 3, 1, 4, 0);
        x.post(0, 1, 1, 1, 0);
        x.post(0, 1, 1, 1, 1);
        due("holds", x.person(0, 4), 2);
        x.pass(1);
        due("on the road", x.person(0, 2), NONE);
        due("its trip", x.person(0, 3), 1);
        due("void trip", x.person(1, 3), NONE);
        due("coins", x.person(0, 0), 98);
        due("holds on the road", x.person(0, 4), 2);
        x.pass(4);
        due("there", x.person(0, 2), 3);
        due("no trip", x.person(0, 3), NONE);
    }

    private static void parcel() {
        RelayParcels x = fresh();
        x.post(0, 1, 2, 345, 3);
        int[] told = {0, 1, 2, 345, 3, 0, 0, 0, NONE, NONE, 0};
        for (int what = 0; what < told.length; what++) {
            due("parcel " + what, x.parcel(0, what), told[what]);
        }
        for (int wrong : new int[] {-1, 11, LOWEST, HIGHEST}) {
            due("what " + wrong, x.parcel(0, wrong), INVALID);
        }
        for (int wrong : new int[] {-1, 1, 10, LOWEST, HIGHEST}) {
            due("parcel " + wrong, x.parcel(wrong, 0), INVALID);
        }
        x.offer(0, 0, 4, 1, 4, 0);
        x.pass(1);
        due("on the road", x.parcel(0, 10), NONE);
        x.pass(4);
        due("there", x.parcel(0, 10), 4);
        x.putIn(0, 0);
        due("in the locker", x.parcel(0, 6), 14);
        due("its town", x.parcel(0, 10), 4);
        due("since", x.parcel(0, 7), 5);
    }

    private static void holderAt() {
        RelayParcels x = fresh();
        x.pass(2);
        x.post(0, 2, 0, 5, 0);
        x.post(0, 6, 0, 5, 0);
        for (int wrong : new int[] {-1, 2, LOWEST, HIGHEST}) {
            due("parcel " + wrong, x.holderAt(wrong, 0), INVALID);
        }
        for (int wrong : new int[] {-1, 3, LOWEST, HIGHEST}) {
            due("hour " + wrong, x.holderAt(0, wrong), INVALID);
        }
        due("now", x.holderAt(0, 2), 0);
        x.putIn(0, 0);
        due("the end of the hour", x.holderAt(0, 2), 10);
        x.pass(1);
        x.fetch(6, 0);
        x.pass(2);
        x.gave(0, 1, 6);
        x.took(6, 1, 0);
        x.pass(3);
        int[] first = {NONE, NONE, 10, 6, 6, 6, 6, 6, 6};
        int[] second = {NONE, NONE, 0, 0, 0, 6, 6, 6, 6};
        for (int hour = 0; hour <= 8; hour++) {
            due("first at " + hour, x.holderAt(0, hour), first[hour]);
            due("second at " + hour, x.holderAt(1, hour), second[hour]);
        }
        due("delivered", x.parcel(1, 5), 1);
        x.pass(5);
        x.claim(0);
        x.pass(5);
        due("lost", x.parcel(0, 5), 2);
        due("the last one", x.holderAt(0, 18), 6);
        x.undo();
        x.undo();
        x.putIn(6, 0);
        due("after undo", x.holderAt(0, 13), 10);
        due("after undo", x.holderAt(0, 12), 6);
    }

    private static void inLocker() {
        RelayParcels x = fresh();
        for (int wrong : new int[] {-1, 6, 10, LOWEST, HIGHEST}) {
            due("town " + wrong, x.inLocker(wrong), INVALID);
        }
        x.post(5, 1, 1, 1, 0);
        x.post(5, 1, 1, 1, 0);
        x.post(4, 1, 1, 1, 0);
        x.putIn(5, 0);
        x.putIn(5, 1);
        x.putIn(4, 2);
        due("town 5", x.inLocker(5), 2);
        due("town 4", x.inLocker(4), 1);
        due("town 0", x.inLocker(0), 0);
        x.fetch(5, 0);
        due("town 5", x.inLocker(5), 1);
    }

    // ---- promises 23 and 24

    private static void wrongWays(RelayParcels x) {
        for (int wrong : new int[] {-1, 1, 10, LOWEST, HIGHEST}) {
            due("earliest " + wrong, x.earliest(wrong, 0), INVALID);
            due("cheapest " + wrong, x.cheapest(wrong, 0), INVALID);
        }
        for (int wrong : new int[] {-1, 3, LOWEST, HIGHEST}) {
            due("earliest what " + wrong, x.earliest(0, wrong), INVALID);
        }
        for (int wrong : new int[] {-1, 2, LOWEST, HIGHEST}) {
            due("cheapest what " + wrong, x.cheapest(0, wrong), INVALID);
        }
    }

    private static void earliestIs(RelayParcels x, int hour, int trips, int first) {
        due("earliest hour", x.earliest(0, 0), hour);
        due("fewest trips", x.earliest(0, 1), trips);
        due("first trip", x.earliest(0, 2), first);
    }

    private static void cheapestIs(RelayParcels x, int sum, int hour) {
        due("cheapest sum", x.cheapest(0, 0), sum);
        due("cheapest hour", x.cheapest(0, 1), hour);
    }

    private static void earliest() {
        RelayParcels x = fresh();
        x.post(0, 7, 5, 10, 0);
        wrongWays(x);
        earliestIs(x, NONE, NONE, NONE);
        x.offer(1, 0, 1, 4, 2, 5);
        earliestIs(x, NONE, NONE, NONE);
        x.offer(2, 1, 5, 5, 2, 5);
        earliestIs(x, NONE, NONE, NONE);
        x.offer(3, 1, 5, 6, 6, 5);
        earliestIs(x, 12, 2, 0);
        x.offer(4, 0, 5, 1, 11, 50);
        earliestIs(x, 12, 1, 0);
        x.offer(5, 0, 5, 2, 9, 50);
        earliestIs(x, 11, 1, 4);
        x.takeBack(4);
        x.takeBack(0);
        earliestIs(x, 12, 1, 3);
        x.pass(1);
        due("voided", x.trip(3, 6), 3);
        earliestIs(x, NONE, NONE, NONE);
        due("no action", x.count(14), 5);
    }

    /** A way may come back to where it was: it counts when the least first trip is told. */
    private static void earliestRoundabout() {
        RelayParcels x = fresh();
        x.offer(1, 0, 2, 1, 1, 5);
        x.offer(2, 0, 5, 8, 2, 5);
        x.offer(3, 2, 0, 2, 6, 5);
        x.post(0, 7, 5, 10, 0);
        earliestIs(x, 10, 1, 0);
        cheapestIs(x, 5, 10);
        x.offer(4, 2, 5, 3, 7, 5);
        earliestIs(x, 10, 1, 0);
        x.takeBack(0);
        earliestIs(x, 10, 1, 1);
        x.takeBack(1);
        earliestIs(x, NONE, NONE, NONE);
    }

    private static void earliestOnTheRoad() {
        RelayParcels x = fresh();
        x.offer(0, 0, 2, 1, 4, 5);
        x.offer(2, 2, 5, 4, 1, 1);
        x.offer(3, 2, 5, 5, 7, 3);
        x.offer(4, 2, 4, 6, 1, 0);
        x.offer(5, 4, 5, 7, 5, 1);
        x.offer(6, 0, 5, 2, 1, 0);
        x.post(0, 7, 5, 10, 0);
        x.post(0, 7, 2, 10, 0);
        earliestIs(x, 3, 1, 5);
        x.pass(1);
        earliestIs(x, 12, 1, 2);
        cheapestIs(x, 1, 12);
        due("the holder goes there", x.earliest(1, 0), 5);
        due("the holder goes there", x.earliest(1, 1), 0);
        due("the holder goes there", x.earliest(1, 2), NONE);
        due("the holder goes there", x.cheapest(1, 0), 0);
        due("the holder goes there", x.cheapest(1, 1), 5);
        x.pass(4);
        due("on the road is not offered", x.trip(2, 6), 3);
        earliestIs(x, 12, 2, 3);
    }

    private static void cheapest() {
        RelayParcels x = fresh();
        x.post(0, 7, 5, 10, 0);
        cheapestIs(x, NONE, NONE);
        x.offer(1, 0, 5, 1, 2, 50);
        cheapestIs(x, 50, 3);
        x.offer(2, 0, 1, 1, 2, 20);
        x.offer(3, 1, 5, 3, 2, 30);
        cheapestIs(x, 50, 3);
        x.offer(4, 1, 5, 9, 2, 29);
        cheapestIs(x, 49, 11);
        x.offer(5, 1, 5, 9, 1, 29);
        cheapestIs(x, 49, 10);
        x.offer(6, 1, 2, 10, 1, 0);
        x.offer(7, 2, 5, 11, 9, 0);
        cheapestIs(x, 20, 20);
        x.putIn(0, 0);
        cheapestIs(x, 20, 20);
        earliestIs(x, 3, 1, 0);
    }

    private static void cheapestTies() {
        RelayParcels x = fresh();
        x.post(0, 7, 5, 10, 0);
        x.offer(1, 0, 1, 1, 1, 0);
        x.offer(2, 1, 2, 2, 1, 0);
        x.offer(3, 2, 5, 3, 1, 7);
        x.offer(4, 0, 5, 3, 2, 7);
        cheapestIs(x, 7, 4);
        earliestIs(x, 4, 3, 0);
        x.offer(5, 0, 5, 2, 2, 8);
        cheapestIs(x, 7, 4);
        earliestIs(x, 4, 1, 0);
    }

    private static void waysOfSeveralParcels() {
        RelayParcels x = fresh();
        x.post(0, 7, 5, 10, 0);
        x.post(0, 7, 2, 10, 0);
        x.offer(1, 0, 5, 1, 2, 4);
        x.offer(2, 0, 2, 3, 4, 5);
        x.offer(3, 5, 2, 4, 1, 6);
        earliestIs(x, 3, 1, 0);
        due("the other's hour", x.earliest(1, 0), 5);
        due("the other's trips", x.earliest(1, 1), 2);
        due("the other's first", x.earliest(1, 2), 0);
        due("the other's sum", x.cheapest(1, 0), 5);
        due("the other's hour", x.cheapest(1, 1), 7);
        x.takeBack(2);
        due("the other's hour", x.earliest(1, 0), 7);
        due("the other's first", x.earliest(1, 2), 1);
        earliestIs(x, 3, 1, 0);
        cheapestIs(x, 4, 3);
        x.takeBack(1);
        due("the other has none", x.cheapest(1, 0), NONE);
    }

    private static void waysAtTheEnd() {
        RelayParcels x = fresh();
        x.post(0, 6, 0, 10, 0);
        x.offer(0, 0, 1, 1, 1, 3);
        x.offer(1, 1, 0, 2, 1, 3);
        x.pass(3);
        due("waits at its destination", x.parcel(0, 10), 1);
        earliestIs(x, NONE, NONE, NONE);
        RelayParcels y = fresh();
        y.post(0, 6, 0, 10, 0);
        y.pass(4);
        y.offer(1, 0, 1, 1, 1, 0);
        earliestIs(y, 4, 0, NONE);
        cheapestIs(y, 0, 4);
        y.gave(0, 0, 6);
        y.took(6, 0, 0);
        earliestIs(y, ILLEGAL, ILLEGAL, ILLEGAL);
        cheapestIs(y, ILLEGAL, ILLEGAL);
        due("invalid first", y.earliest(0, 3), INVALID);
        due("invalid first", y.cheapest(0, 2), INVALID);
    }

    // ---- promise 25

    private static void wouldClaim() {
        RelayParcels x = fresh();
        x.post(0, 3, 3, 60, 1);
        for (int wrong : new int[] {-1, 1, LOWEST, HIGHEST}) {
            due("parcel " + wrong, x.wouldClaim(wrong, 0), INVALID);
        }
        for (int wrong : new int[] {-1, 3, LOWEST, HIGHEST}) {
            due("what " + wrong, x.wouldClaim(0, wrong), INVALID);
        }
        due("the sender holds it", x.wouldClaim(0, 0), ILLEGAL);
        x.gave(0, 0, 6);
        x.took(6, 0, 0);
        wouldClaimIs(x, 2, 40, 0);
        x.gave(6, 0, 0);
        wouldClaimIs(x, 2, 29, 29);
        x.post(1, 3, 3, 60, 2);
        wouldClaimIs(x, 7, 27, 26);
        x.took(0, 0, 6);
        due("the sender holds it", x.wouldClaim(0, 0), ILLEGAL);
        x.putIn(0, 0);
        wouldClaimIs(x, 7, 0, 0);
        due("changes nothing", x.count(9), 7);
        x.pass(10);
        x.claim(0);
        due("lost", x.wouldClaim(0, 0), ILLEGAL);
        due("invalid first", x.wouldClaim(0, 3), INVALID);
    }

    private static void wouldClaimIs(RelayParcels x, int fund, int holder, int named) {
        due("the fund would pay", x.wouldClaim(0, 0), fund);
        due("the holder would pay", x.wouldClaim(0, 1), holder);
        due("the one named would pay", x.wouldClaim(0, 2), named);
    }
}
