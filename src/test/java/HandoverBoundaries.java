/** What the document's terms say of words, handovers, fees and claims. */
final class HandoverBoundaries extends Boundaries {
    private static final String HANDED_TO_6 = "gave 0 0 6, took 6 0 0";

    HandoverBoundaries(Checks checks, Document document) {
        super(checks, document);
    }

    @Override
    void hold() {
        section("Words, handovers");
        whoCanSayIt();
        inOneTown();
        wordsSaidAgain();
        wordsThatFall();
        wordsThatFit();
        delivery();
        feeOrNone();
        tripThatLeavesFirst();
        feeToItself();
        feeOfThePoor();
        lockers();
        lockerFees();
        section("Claims");
        claimHours();
        claimHolders();
        fundPays();
        holderOwes();
        halves();
        lockerOwesNothing();
    }

    /** Parcel 0 is person 0's, with which the persons 6 and 7 are in town 0. */
    private static Run three() {
        return run("offer 7 1 0 1 1 0, pass 2, post 0 3 3 9 0");
    }

    private void whoCanSayIt() {
        sentence("The holder of a parcel can say that it gave it to another person", () -> {
            is(three(), "gave 0 0 6", 0);
            is(three(), "gave 0 0 7", 0);
            refused(three(), "gave 0 0 0", INVALID);
            refused(three(), "gave 6 0 0", ILLEGAL);
            refused(three(), "gave 6 0 7", ILLEGAL);
            refused(three().then("putIn 0 0"), "gave 0 0 6", ILLEGAL);
            is(three().then(HANDED_TO_6), "gave 6 0 7", 0);
            refused(three().then(HANDED_TO_6), "gave 0 0 7", ILLEGAL);
        });
        sentence("this other person can say that it took it from the holder", () -> {
            is(three(), "took 6 0 0", 0);
            is(three(), "took 7 0 0", 0);
            refused(three(), "took 0 0 0", INVALID);
            refused(three(), "took 0 0 6", ILLEGAL);
            refused(three(), "took 6 0 7", ILLEGAL);
            refused(three().then("putIn 0 0"), "took 6 0 0", ILLEGAL);
            is(three().then(HANDED_TO_6), "took 7 0 6", 0);
            refused(three().then(HANDED_TO_6), "took 7 0 0", ILLEGAL);
        });
    }

    private void inOneTown() {
        sentence("Both can be said only while both persons are in one town", () -> {
            Run comes = run("post 0 3 3 9 0, offer 7 1 0 1 2 0");
            bothRefused(comes, 0, 7);
            bothRefused(comes.then("pass 1"), 0, 7);
            bothRefused(comes.then("pass 2"), 0, 7);
            bothAllowed(comes.then("pass 3"), 0, 7);
            Run takerLeaves = run("post 0 3 3 9 0, offer 6 0 1 3 9 0");
            bothAllowed(takerLeaves.then("pass 2"), 0, 6);
            bothRefused(takerLeaves.then("pass 3"), 0, 6);
            Run holderLeaves = run("post 0 3 3 9 0, offer 0 0 1 3 9 0");
            bothAllowed(holderLeaves.then("pass 2"), 0, 6);
            bothRefused(holderLeaves.then("pass 3"), 0, 6);
            bothRefused(holderLeaves.then("pass 12"), 0, 6);
            bothAllowed(holderLeaves.then("pass 12"), 0, 1);
            Run bothLeave = holderLeaves.then("offer 6 0 1 3 9 0");
            bothRefused(bothLeave.then("pass 3"), 0, 6);
            bothRefused(bothLeave.then("pass 11"), 0, 6);
            bothAllowed(bothLeave.then("pass 12"), 0, 6);
        });
    }

    private void bothRefused(Run run, int holder, int other) {
        refused(run, "gave " + holder + " 0 " + other, ILLEGAL);
        refused(run, "took " + other + " 0 " + holder, ILLEGAL);
    }

    private void bothAllowed(Run run, int holder, int other) {
        is(run, "gave " + holder + " 0 " + other, 0);
        is(run, "took " + other + " 0 " + holder, 0);
        is(run.then("gave " + holder + " 0 " + other), "took " + other + " 0 " + holder, 1);
    }

    private void words(Run run, int gave, int took) {
        is(run, "parcel 0 8", gave);
        is(run, "parcel 0 9", took);
    }

    private void wordsSaidAgain() {
        sentence("stands for a parcel until the same kind is said again for it", () -> {
            words(three(), NONE, NONE);
            words(three().then("gave 0 0 6"), 6, NONE);
            words(three().then("took 6 0 0"), NONE, 6);
            words(three().then("gave 0 0 6, gave 0 0 7"), 7, NONE);
            words(three().then("took 6 0 0, took 7 0 0"), NONE, 7);
            words(three().then("gave 0 0 6, took 7 0 0"), 6, 7);
            words(three().then("took 7 0 0, gave 0 0 6"), 6, 7);
            words(three().then("gave 0 0 6, gave 0 0 6"), 6, NONE);
            words(three().then("post 0 3 3 9 0, gave 0 0 6, gave 0 1 7, took 6 1 0"), 6, NONE);
            words(three().then("gave 0 0 6, !gave 0 0 1, !gave 0 0 0"), 6, NONE);
            words(three().then("gave 0 0 6, hours 400"), 6, NONE);
            words(three().then("gave 0 0 6, offer 6 0 1 1 1 0, pass 2"), 6, NONE);
            is(three().then("gave 0 0 6, gave 0 0 7"), "took 6 0 0", 0);
            is(three().then("gave 0 0 6, gave 0 0 7"), "took 7 0 0", 1);
            is(three().then("took 6 0 0, took 7 0 0"), "gave 0 0 6", 0);
            is(three().then("took 6 0 0, took 7 0 0"), "gave 0 0 7", 1);
        });
    }

    private void wordsThatFall() {
        sentence("or the parcel has another holder", () -> {
            words(three().then(HANDED_TO_6), NONE, NONE);
            words(three().then("gave 0 0 6, took 7 0 0, putIn 0 0"), NONE, NONE);
            words(three().then("gave 0 0 6, putIn 0 0, fetch 0 0"), NONE, NONE);
            is(three().then("gave 0 0 6, putIn 0 0, fetch 0 0"), "took 6 0 0", 0);
            is(three().then("took 6 0 0, putIn 0 0, fetch 0 0"), "gave 0 0 6", 0);
            words(three().then("took 7 0 0, " + HANDED_TO_6), NONE, NONE);
            is(three().then("gave 0 0 7, took 7 0 0, gave 7 0 0, took 0 0 7"), "took 7 0 0", 0);
        });
        sentence("or it is no more under way", () -> {
            Run claimed = three().then(HANDED_TO_6 + ", gave 6 0 0, took 7 0 6, pass 10");
            words(claimed, 0, 7);
            words(claimed.then("claim 0"), NONE, NONE);
            Run delivered = run("offer 7 1 0 1 1 0, pass 2, post 0 6 0 9 0, took 7 0 0, took 6 0 0, gave 0 0 6");
            words(delivered, NONE, NONE);
            is(delivered, "parcel 0 5", 1);
        });
    }

    private void wordsThatFit() {
        sentence("When both words stand for a parcel, and they fit", () -> {
            is(three().then("gave 0 0 6"), "took 6 0 0", 1);
            is(three().then("took 6 0 0"), "gave 0 0 6", 1);
            is(three().then("gave 0 0 6"), "gave 0 0 6", 0);
            is(three().then("took 6 0 0"), "took 6 0 0", 0);
            is(three().then("gave 0 0 7"), "took 6 0 0", 0);
            is(three().then("took 7 0 0"), "gave 0 0 6", 0);
            is(three().then("post 0 3 3 9 0, gave 0 1 6"), "took 6 0 0", 0);
            is(three().then("gave 0 0 6"), "count 11", 0);
            is(three().then("gave 0 0 7, took 6 0 0"), "count 11", 0);
            is(three().then(HANDED_TO_6), "count 11", 1);
        });
        sentence("the handover counts: the one who took it is the holder from then on", () -> {
            Run said = three().then("took 6 0 0, pass 3");
            is(said, "parcel 0 6", 0);
            is(said.then("gave 0 0 6"), "parcel 0 6", 6);
            is(said.then("gave 0 0 6"), "parcel 0 7", 5);
            is(said.then("gave 0 0 6"), "holderAt 0 4", 0);
            is(said.then("gave 0 0 6"), "holderAt 0 5", 6);
        });
    }

    private void delivery() {
        sentence("If this is the receiver, and the town is the destination, the parcel is delivered", () -> {
            is(run("post 0 6 0 9 0, " + HANDED_TO_6), "parcel 0 5", 1);
            is(run("post 0 6 1 9 0, " + HANDED_TO_6), "parcel 0 5", 0);
            is(run("post 0 6 5 9 0, " + HANDED_TO_6), "parcel 0 5", 0);
            is(run("post 0 7 0 9 0, " + HANDED_TO_6), "parcel 0 5", 0);
            is(run("post 0 6 0 9 0, gave 0 0 6"), "parcel 0 5", 0);
            Run carried = run("post 0 6 1 9 0, " + HANDED_TO_6 + ", offer 6 0 1 1 1 0, pass 2");
            is(carried, "parcel 0 5", 0);
            is(carried, "person 6 4", 1);
            is(carried, "count 7", 0);
            is(carried.then("gave 6 0 7, took 7 0 6, gave 7 0 6, took 6 0 7"), "count 7", 1);
        });
    }

    /** What person 6 gets if parcel 0 is handed to it after this. */
    private void feeOf(String before, int fee) {
        Run handed = run(before).then(HANDED_TO_6);
        is(handed, "count 12", fee);
        is(handed, "person 6 5", fee);
    }

    private void feeOrNone() {
        sentence("If it is not the receiver, and has an offered trip from this town, the sender pays the fee", () -> {
            feeOf("post 0 3 3 9 0, offer 6 0 1 9 1 30", 30);
            feeOf("post 0 3 3 9 0, offer 6 0 1 9 1 0", 0);
            feeOf("post 0 3 3 9 0, offer 6 0 1 9 1 1", 1);
            feeOf("post 0 3 3 9 0, offer 6 0 1 9 1 99", 99);
            feeOf("post 0 3 3 9 0", 0);
            feeOf("post 0 6 3 9 0, offer 6 0 1 9 1 30", 0);
            feeOf("post 0 6 0 9 0, offer 6 0 1 9 1 30", 0);
            feeOf("post 0 3 3 9 0, offer 6 1 0 9 1 30", 0);
            feeOf("post 0 3 3 9 0, offer 1 0 1 9 1 30", 0);
            feeOf("post 0 3 3 9 0, offer 6 0 1 9 1 30, takeBack 0", 0);
            feeOf("post 0 3 3 9 0, offer 6 0 1 1 1 30, offer 6 1 0 2 1 20, pass 3", 0);
            feeOf("post 0 3 3 9 0, offer 6 0 1 50 1 30, hours 49", 30);
            Run elsewhere = run("post 0 3 3 9 0, offer 0 0 1 1 1 0, pass 2, offer 7 1 2 1 1 20, offer 7 2 1 4 1 30");
            is(elsewhere.then("gave 0 0 7, took 7 0 0"), "person 7 5", 20);
            is(elsewhere.then("gave 0 0 7, took 7 0 0"), "person 0 0", 80);
            is(elsewhere.then("gave 0 0 7, took 7 0 0"), "person 7 0", 120);
        });
    }

    private void tripThatLeavesFirst() {
        sentence("the fee of the trip of these that leaves first to it", () -> {
            feeOf("post 0 3 3 9 0, offer 6 0 1 9 1 30, offer 6 0 1 5 1 20", 20);
            feeOf("post 0 3 3 9 0, offer 6 0 1 5 1 20, offer 6 0 1 9 1 30", 20);
            feeOf("post 0 3 3 9 0, offer 6 0 1 9 1 30, offer 6 0 1 5 1 20, offer 6 0 1 7 1 40", 20);
            feeOf("post 0 3 3 9 0, offer 6 0 1 5 1 20, offer 6 0 1 6 1 10", 20);
            feeOf("post 0 3 3 9 0, offer 6 0 1 6 1 10, offer 6 0 1 5 1 20", 20);
            feeOf("post 0 3 3 9 0, offer 6 1 0 4 1 10, offer 6 0 1 5 1 20", 20);
            feeOf("post 0 3 3 9 0, offer 6 0 1 5 1 20, offer 6 0 1 9 1 30, takeBack 0", 30);
            feeOf("post 0 3 3 9 0, offer 0 0 1 2 1 7, offer 6 0 1 5 1 20", 20);
        });
    }

    private void feeToItself() {
        sentence("(also to itself)", () -> {
            String toItself = ", gave 6 0 0, took 0 0 6";
            Run back = run("post 0 3 3 9 0, offer 0 0 1 9 1 12, " + HANDED_TO_6 + toItself);
            is(back, "person 0 0", 100);
            is(back, "person 0 5", 12);
            is(back, "count 12", 12);
            is(run("post 0 3 3 9 0, offer 0 0 1 9 1 12, putIn 0 0, fetch 0 0"), "person 0 5", 12);
            Run nine = PlaceBoundaries.withCoins(9).then("offer 0 0 1 9 1 10" + toItself);
            is(nine, "person 0 0", 9);
            is(nine, "person 0 5", 9);
            is(nine, "count 12", 100);
        });
    }

    private void feeOfThePoor() {
        sentence("or all its coins if these are less", () -> {
            for (int left : new int[] {0, 1, 33, 49, 50, 51, 99}) {
                int fee = left == 0 ? 99 : 100 - left;
                int paid = Math.min(fee, left);
                Run handed = PlaceBoundaries.withCoins(left).then("post 0 3 3 9 0, gave 0 1 6, took 6 1 0");
                is(handed, "parcel 1 6", 6);
                is(handed, "person 0 0", left - paid);
                is(handed, "person 6 0", 200 - left + paid);
                is(handed, "person 6 5", 100 - left + paid);
                is(handed, "count 12", 100 - left + paid);
            }
        });
    }

    private void lockers() {
        sentence("A holder can also put a parcel into the locker of its town", () -> {
            Run posted = run("post 5 3 3 9 0, post 4 3 3 9 0, offer 5 5 4 2 3 0");
            is(posted, "putIn 5 0", 1);
            is(posted.then("putIn 5 0"), "parcel 0 6", 15);
            refused(posted, "putIn 4 0", ILLEGAL);
            is(posted.then("pass 1, putIn 5 0"), "parcel 0 6", 15);
            refused(posted.then("pass 2"), "putIn 5 0", ILLEGAL);
            refused(posted.then("pass 4"), "putIn 5 0", ILLEGAL);
            is(posted.then("pass 5, putIn 5 0"), "parcel 0 6", 14);
        });
        sentence("and a person can fetch a parcel out of the locker of its town", () -> {
            Run put = run("post 0 3 3 9 0, putIn 0 0, offer 7 1 0 2 3 0, offer 6 0 1 2 3 0");
            refused(put, "fetch 7 0", ILLEGAL);
            refused(put, "fetch 1 0", ILLEGAL);
            refused(put.then("pass 4"), "fetch 7 0", ILLEGAL);
            is(put.then("pass 5"), "fetch 7 0", 0);
            is(put.then("pass 1"), "fetch 6 0", 0);
            refused(put.then("pass 2"), "fetch 6 0", ILLEGAL);
            refused(put.then("pass 5"), "fetch 6 0", ILLEGAL);
            refused(put.then("fetch 6 0"), "fetch 0 0", ILLEGAL);
        });
        sentence("the locker's word is sure: these handovers count at once", () -> {
            Run put = run("post 0 3 3 9 0, pass 3, putIn 0 0");
            is(put, "count 11", 1);
            is(put, "parcel 0 7", 3);
            is(put, "holderAt 0 3", 10);
            is(put, "holderAt 0 2", 0);
            is(put.then("fetch 6 0"), "count 11", 2);
            is(put.then("pass 1, fetch 6 0"), "parcel 0 7", 4);
            is(put.then("pass 1, fetch 6 0"), "holderAt 0 3", 10);
        });
    }

    private void lockerFees() {
        sentence("(If the receiver fetches it at the destination, it is delivered;", () -> {
            is(run("post 0 6 0 9 0, putIn 0 0"), "parcel 0 5", 0);
            is(run("post 0 6 0 9 0, putIn 0 0, fetch 6 0"), "parcel 0 5", 1);
            is(run("post 0 6 0 9 0, putIn 0 0, fetch 6 0"), "parcel 0 6", 6);
            is(run("post 0 6 1 9 0, putIn 0 0, fetch 6 0"), "parcel 0 5", 0);
            is(run("post 0 7 0 9 0, putIn 0 0, fetch 6 0"), "parcel 0 5", 0);
            is(run("post 0 6 0 9 0, putIn 0 0, fetch 0 0"), "parcel 0 5", 0);
        });
        sentence("if another person fetches it, the fee is paid as told above", () -> {
            String put = "post 0 3 3 9 0, putIn 0 0";
            is(run(put + ", offer 6 0 1 9 1 30, fetch 6 0"), "person 6 5", 30);
            is(run(put + ", offer 6 0 1 9 1 30, offer 6 0 1 8 1 20, fetch 6 0"), "person 6 5", 20);
            is(run(put + ", offer 6 1 0 9 1 30, fetch 6 0"), "person 6 5", 0);
            is(run(put + ", offer 6 0 1 9 1 30, takeBack 0, fetch 6 0"), "person 6 5", 0);
            is(run("offer 6 0 1 9 1 30, " + put), "count 12", 0);
            Run one = PlaceBoundaries.withCoins(1).then("post 0 3 3 9 0, putIn 0 1, fetch 6 1");
            is(one, "person 0 0", 0);
            is(one, "person 6 5", 100);
        });
        sentence("the receiver never gets one", () -> {
            is(run("post 0 6 0 9 0, putIn 0 0, offer 6 0 1 9 1 30, fetch 6 0"), "count 12", 0);
            is(run("post 0 6 1 9 0, putIn 0 0, offer 6 0 1 9 1 30, fetch 6 0"), "count 12", 0);
            is(run("post 0 6 1 9 0, offer 6 0 1 9 1 30, " + HANDED_TO_6), "count 12", 0);
            is(run("post 0 3 1 9 0, offer 6 0 1 9 1 30, " + HANDED_TO_6), "count 12", 30);
        });
    }

    private void claimHours() {
        sentence("if it has had its holder for at least 10 hours", () -> {
            Run handed = run("post 0 3 3 9 0, pass 3, " + HANDED_TO_6);
            refused(handed, "claim 0", ILLEGAL);
            refused(handed.then("pass 9"), "claim 0", ILLEGAL);
            is(handed.then("pass 10"), "claim 0", 9);
            is(handed.then("pass 11"), "claim 0", 9);
            is(handed.then("hours 497"), "claim 0", 9);
            is(handed.then("pass 9, gave 6 0 0, pass 1"), "claim 0", 9);
            is(handed.then("pass 9, took 0 0 6, pass 1"), "claim 0", 9);
            Run put = handed.then("pass 9, putIn 6 0");
            refused(put.then("pass 1"), "claim 0", ILLEGAL);
            refused(put.then("pass 9"), "claim 0", ILLEGAL);
            is(put.then("pass 10"), "claim 0", 0);
            refused(put.then("fetch 6 0, pass 9"), "claim 0", ILLEGAL);
            is(put.then("fetch 6 0, pass 10"), "claim 0", 9);
        });
    }

    private void claimHolders() {
        sentence("and this is not the sender", () -> {
            Run posted = run("post 0 6 3 9 0");
            refused(posted.then("pass 10"), "claim 0", ILLEGAL);
            refused(posted.then("hours 100"), "claim 0", ILLEGAL);
            refused(posted.then(HANDED_TO_6 + ", pass 10, gave 6 0 0, took 0 0 6, pass 10"), "claim 0", ILLEGAL);
            is(posted.then(HANDED_TO_6 + ", pass 10"), "claim 0", 9);
            is(posted.then("putIn 0 0, pass 10"), "claim 0", 0);
            refused(posted.then("putIn 0 0, fetch 0 0, pass 10"), "claim 0", ILLEGAL);
        });
        sentence("The sender of a parcel under way can claim that it is lost", () -> {
            refused(run("post 0 6 0 9 0, " + HANDED_TO_6 + ", pass 10"), "claim 0", ILLEGAL);
            Run lost = run("post 0 3 3 9 0, " + HANDED_TO_6 + ", pass 10, claim 0");
            refused(lost, "claim 0", ILLEGAL);
            refused(lost.then("pass 10"), "claim 0", ILLEGAL);
        });
        sentence("The parcel is lost then.", () -> {
            Run handed = run("post 0 3 3 9 0, " + HANDED_TO_6 + ", pass 10");
            is(handed, "parcel 0 5", 0);
            is(handed.then("claim 0"), "parcel 0 5", 2);
            is(handed.then("claim 0"), "count 8", 1);
            is(handed.then("claim 0"), "count 6", 0);
            is(run("post 0 3 3 9 0, putIn 0 0, pass 10, claim 0"), "parcel 0 5", 2);
        });
    }

    private void fundPays() {
        sentence("The fund pays the sender the worth, up to the cover, as far as its coins go", () -> {
            for (int worth = 10; worth <= 14; worth++) {
                Run ready = run("post 0 3 3 " + worth + " 1, post 1 3 3 9 3, putIn 0 0, pass 10");
                int paid = Math.min(worth, 12);
                is(ready, "claim 0", paid);
                is(ready.then("claim 0"), "count 9", 12 - paid);
                is(ready.then("claim 0"), "person 0 0", 98 + paid);
            }
            Run fifty = run("").times(3, "post 1 3 3 9 3").then("post 2 3 3 9 3").times(2, "post 2 3 3 9 1");
            fifty = fifty.times(2, "post 3 2 3 9 1");
            for (int worth = 49; worth <= 51; worth++) {
                Run ready = fifty.then("post 0 3 3 " + worth + " 1, putIn 0 8, pass 10");
                is(ready, "count 9", 50);
                is(ready, "claim 8", Math.min(worth, 50));
            }
            Run twice = run("post 0 3 3 4 1, post 0 3 3 4 1, putIn 0 0, putIn 0 1, pass 10, claim 0");
            is(twice, "count 9", 0);
            is(twice, "claim 1", 0);
            is(twice.then("claim 1"), "count 9", 0);
        });
    }

    private void holderOwes() {
        sentence("is owed by the one who is liable, out of its deposit, as far as this goes: the holder, if it is a person", () -> {
            for (int worth : new int[] {1, 39, 40, 41, 999}) {
                Run ready = run("post 0 3 3 " + worth + " 0, " + HANDED_TO_6 + ", pass 10");
                int paid = Math.min(worth, 40);
                is(ready, "claim 0", paid);
                is(ready.then("claim 0"), "person 6 1", 40 - paid);
                is(ready.then("claim 0"), "person 0 0", 100 + paid);
                is(ready.then("claim 0"), "person 0 1", 40);
                is(ready.then("claim 0"), "person 3 1", 40);
            }
            for (int worth : new int[] {11, 12, 13, 51, 52, 53}) {
                Run ready = run("post 0 3 3 " + worth + " 3, post 1 3 3 9 1, " + HANDED_TO_6 + ", pass 10");
                is(ready, "claim 0", Math.min(worth, 52));
                is(ready.then("claim 0"), "person 6 1", 40 - Math.max(0, Math.min(worth - 12, 40)));
            }
            Run second = run("post 0 3 3 39 0, post 0 3 3 2 0, " + HANDED_TO_6 + ", gave 0 1 6, took 6 1 0, pass 10, claim 0");
            is(second, "claim 1", 1);
            is(second.then("claim 1"), "person 6 1", 0);
            is(second.then("undo, claim 1"), "claim 0", 38);
            Run third = run("post 0 3 3 40 0, post 0 3 3 2 0, " + HANDED_TO_6 + ", gave 0 1 6, took 6 1 0, pass 10, claim 0");
            is(third, "claim 1", 0);
            is(third.then("claim 1"), "parcel 1 5", 2);
        });
    }

    private void halves() {
        sentence("both owe half of what is missing (the holder the greater half, if it is odd)", () -> {
            int[][] cases = {{1, 1, 0}, {2, 1, 1}, {3, 2, 1}, {78, 39, 39}, {79, 40, 39}, {80, 40, 40}, {81, 40, 40}, {999, 40, 40}};
            for (int[] one : cases) {
                Run ready = three().then("post 0 3 3 " + one[0] + " 0, gave 0 1 6, took 6 1 0, gave 6 1 7, pass 10");
                is(ready, "claim 1", one[1] + one[2]);
                is(ready.then("claim 1"), "person 6 1", 40 - one[1]);
                is(ready.then("claim 1"), "person 7 1", 40 - one[2]);
                is(ready.then("claim 1"), "person 0 1", 40);
                is(ready.then("claim 1"), "person 0 0", 100 + one[1] + one[2]);
            }
            Run spent = three().then("post 0 3 3 40 0, gave 0 1 6, took 6 1 0, gave 0 0 6, took 6 0 0, gave 6 0 7, pass 10, claim 1");
            is(spent, "person 6 1", 0);
            is(spent, "claim 0", 4);
            is(spent.then("claim 0"), "person 7 1", 36);
        });
        sentence("if the word of the holder that it gave the parcel to somebody (perhaps the sender) stands", () -> {
            Run named = run("post 0 3 3 61 0, " + HANDED_TO_6 + ", gave 6 0 0, pass 10");
            is(named, "claim 0", 61);
            is(named.then("claim 0"), "person 6 1", 9);
            is(named.then("claim 0"), "person 0 1", 10);
            is(named.then("claim 0"), "person 0 0", 161);
            Run takenOnly = three().then("post 0 3 3 61 0, gave 0 1 6, took 6 1 0, took 7 1 6, pass 10");
            is(takenOnly, "claim 1", 40);
            is(takenOnly.then("claim 1"), "person 7 1", 40);
            Run fell = run("post 0 3 3 61 0, " + HANDED_TO_6 + ", gave 6 0 0, putIn 6 0, fetch 6 0, pass 10");
            is(fell, "claim 0", 40);
            is(fell.then("claim 0"), "person 0 1", 40);
        });
    }

    private void lockerOwesNothing() {
        sentence("For a locker nobody is liable", () -> {
            Run put = run("post 0 3 3 999 0, post 0 3 3 999 1, gave 0 0 6, putIn 0 0, putIn 0 1, pass 10");
            is(put, "claim 0", 0);
            is(put.then("claim 0"), "count 10", 8 * 140 - 2);
            is(put.then("claim 0"), "count 9", 2);
            is(put, "claim 1", 2);
            is(put.then("claim 1"), "count 10", 8 * 140);
            for (int person = 0; person <= 7; person++) {
                is(put.then("claim 0, claim 1"), "person " + person + " 1", 40);
            }
        });
    }
}
