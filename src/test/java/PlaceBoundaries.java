/** What the document's terms say of calls, towns, persons, trips and parcels. */
final class PlaceBoundaries extends Boundaries {
    private static final int[] COSTS = {0, 2, 5, 10};

    PlaceBoundaries(Checks checks, Document document) {
        super(checks, document);
    }

    @Override
    void hold() {
        calls();
        division();
        persons();
        fundAndLockers();
        tripNumbers();
        tripTowns();
        tripStates();
        overlaps();
        hours();
        leaving();
        parcelNumbers();
        parcelParts();
        costs();
        covers();
        holders();
        heldAtMost();
        places();
    }

    /** Sixteen trips, two of each person, that don't overlap. */
    static Run trips(int number) {
        Run made = run("");
        for (int i = 0; i < number; i++) {
            made = made.then("offer " + i % 8 + " 0 1 " + (1 + i / 8) + " 1 0");
        }
        return made;
    }

    /** Parcels of the persons 0, 1 and 2, who hold three each, and then of person 3. */
    static Run parcels(int number) {
        Run made = run("");
        for (int i = 0; i < number; i++) {
            made = made.then("post " + i / 3 + " 7 5 9 0");
        }
        return made;
    }

    /** Person 0 has this many coins of its 100 left: the others were the fee of person 6, who has parcel 0. */
    static Run withCoins(int left) {
        String handedOver = "gave 0 0 6, took 6 0 0";
        if (left == 0) {
            return withCoins(1).then("gave 6 0 0, took 0 0 6, " + handedOver);
        }
        return run("offer 6 0 1 50 1 " + (100 - left) + ", post 0 1 1 1 0, " + handedOver);
    }

    private void calls() {
        section("What it is");
        sentence("An object is used for at most 512 calls after it has been made", () -> {
            Run handed = run("post 0 1 5 9 1").times(255, "putIn 0 0, fetch 0 0");
            due("calls", handed.length(), 511);
            is(handed, "count 11", 510);
            is(handed, "parcel 0 6", 0);
            is(handed, "holderAt 0 0", 0);
            is(handed, "putIn 0 0", 1);
            Run byHours = run("post 0 1 5 9 1").times(127, "putIn 0 0, pass 1, fetch 0 0, pass 1").then("putIn 0 0, take 0");
            due("calls", byHours.length(), 511);
            for (int hour : new int[] {0, 1, 2, 3, 126, 127, 128, 252, 253, 254}) {
                is(byHours, "holderAt 0 " + hour, hour % 2 == 0 ? 10 : 0);
            }
            Run kept = run("").times(255, "take 0, take 1").then("pass 3");
            due("calls", kept.length(), 511);
            is(kept, "undo", 4);
            is(kept, "restore 1", 0);
            Run written = run("").times(6, "text " + "h".repeat(80) + ", clearText").then("text " + "x".repeat(25));
            due("calls", written.length(), 511);
            is(written, "append 104", 26);
            is(written, "carryOut", -1000);
        });
    }

    private void division() {
        section("Terms");
        sentence("Where something is divided, the result is rounded down", () -> {
            for (int worth : new int[] {1, 2, 3, 4, 59, 60, 61}) {
                Run given = run("post 0 3 3 " + worth + " 0, gave 0 0 6, took 6 0 0, gave 6 0 0");
                is(given, "wouldClaim 0 2", worth / 2);
                is(given, "wouldClaim 0 1", worth - worth / 2);
            }
        });
    }

    private void persons() {
        section("Towns and persons");
        sentence("There are 6 towns, 0 to 5", () -> range(run(""), "inLocker #", 0, 5));
        sentence("and 8 persons, 0 to 7", () -> range(run(""), "person # 0", 0, 7));
        sentence("A person has coins (at first 100)", () -> {
            are(run(""), "person # 0", 0, 100, 100, 100, 100, 100, 100, 100, 100);
            is(withCoins(1), "person 0 0", 1);
            is(withCoins(0), "person 0 0", 0);
            is(withCoins(0), "person 6 0", 200);
        });
        sentence("a deposit (at first 40)", () -> {
            are(run(""), "person # 1", 0, 40, 40, 40, 40, 40, 40, 40, 40);
            is(run("post 0 3 3 40 0, gave 0 0 6, took 6 0 0, pass 10"), "claim 0", 40);
            is(run("post 0 3 3 41 0, gave 0 0 6, took 6 0 0, pass 10"), "claim 0", 40);
        });
        sentence("the person k at first in the town k left over by 6",
            () -> are(run(""), "person # 2", 0, 0, 1, 2, 3, 4, 5, 0, 1));
        sentence("or on the road", () -> {
            Run offered = run("offer 7 1 0 2 3 0");
            is(offered.then("pass 1"), "person 7 2", 1);
            is(offered.then("pass 2"), "person 7 2", NONE);
            is(offered.then("pass 4"), "person 7 2", NONE);
            is(offered.then("pass 5"), "person 7 2", 0);
        });
    }

    private void fundAndLockers() {
        sentence("There is a fund, with 0 coins at first", () -> {
            is(run(""), "count 9", 0);
            is(run("post 0 1 1 9 0"), "count 9", 0);
            is(run("post 0 1 1 9 1"), "count 9", 2);
        });
        sentence("Each town has a locker with 3 places", () -> {
            for (int town = 0; town <= 5; town++) {
                int next = (town + 1) % 6;
                Run full = run("").times(3, "post " + town + " 7 5 9 0");
                for (int i = 0; i < 3; i++) {
                    is(full, "inLocker " + town, i);
                    is(full, "putIn " + town + " " + i, i + 1);
                    full = full.then("putIn " + town + " " + i);
                }
                full = full.then("post " + town + " 7 5 9 0, post " + next + " 7 5 9 0");
                is(full, "inLocker " + town, 3);
                refused(full, "putIn " + town + " 3", FULL);
                is(full, "putIn " + next + " 4", 1);
                is(full.then("fetch " + town + " 0"), "putIn " + town + " 3", 3);
            }
        });
    }

    private void tripNumbers() {
        section("Trips");
        sentence("There are at most 16 trips", () -> {
            is(trips(15), "offer 7 0 1 9 1 0", 15);
            is(trips(16), "count 1", 16);
            refused(trips(16), "offer 7 0 1 9 1 0", FULL);
            refused(trips(16).then("takeBack 15"), "offer 7 0 1 9 1 0", FULL);
            refused(trips(16).then("pass 20"), "offer 7 0 1 9 1 0", FULL);
            is(trips(16).then("undo"), "offer 7 0 1 9 1 0", 15);
        });
        sentence("numbered from 0 in the order in which they were offered", () -> {
            is(run(""), "offer 7 5 4 9 1 0", 0);
            is(run("offer 7 5 4 9 1 0"), "offer 0 5 4 1 1 0", 1);
            is(run("offer 7 5 4 9 1 0, takeBack 0"), "offer 0 5 4 1 1 0", 1);
            is(run("offer 7 5 4 9 1 0, undo"), "offer 0 5 4 1 1 0", 0);
            are(trips(16), "trip # 0", 0, 0, 1, 2, 3, 4, 5, 6, 7, 0, 1, 2, 3, 4, 5, 6, 7);
        });
    }

    private void tripTowns() {
        sentence("a town from which and another one to which it goes", () -> {
            for (int from = 0; from <= 5; from++) {
                for (int to = 0; to <= 5; to++) {
                    String offer = "offer 0 " + from + " " + to + " 1 1 0";
                    if (from == to) {
                        refused(run(""), offer, INVALID);
                    } else {
                        is(run(""), offer, 0);
                    }
                }
            }
        });
        sentence("an hour in which it leaves, a later one in which it arrives", () -> {
            refused(run(""), "offer 0 0 1 7 0 0", INVALID);
            refused(run(""), "offer 0 0 1 7 -1 0", INVALID);
            is(run("offer 0 0 1 7 1 0"), "trip 0 3", 7);
            is(run("offer 0 0 1 7 1 0"), "trip 0 4", 8);
        });
    }

    private void tripStates() {
        sentence("Its state is 0 offered, 1 on the road, 2 done, 3 void", () -> {
            Run there = run("offer 0 0 1 2 3 0");
            is(there, "trip 0 6", 0);
            is(there.then("pass 1"), "trip 0 6", 0);
            is(there.then("pass 2"), "trip 0 6", 1);
            is(there.then("pass 4"), "trip 0 6", 1);
            is(there.then("pass 5"), "trip 0 6", 2);
            is(there.then("pass 24"), "trip 0 6", 2);
            is(there.then("takeBack 0"), "trip 0 6", 3);
            is(there.then("takeBack 0, pass 5"), "trip 0 6", 3);
            Run elsewhere = run("offer 0 1 2 2 3 0");
            is(elsewhere.then("pass 1"), "trip 0 6", 0);
            is(elsewhere.then("pass 2"), "trip 0 6", 3);
            is(elsewhere.then("pass 5"), "trip 0 6", 3);
        });
    }

    private void overlaps() {
        sentence("Two trips of a person overlap if each one leaves before the other one arrives", () -> {
            Run one = run("offer 0 0 1 10 5 0");
            for (String times : new String[] {"9 2", "1 10", "1 50", "10 1", "10 5", "10 6", "9 7", "12 1", "14 1", "14 9"}) {
                refused(one, "offer 0 0 1 " + times + " 0", ILLEGAL);
                is(one, "offer 1 0 1 " + times + " 0", 1);
            }
            for (String times : new String[] {"9 1", "1 9", "1 1", "15 1", "15 50", "50 50"}) {
                is(one, "offer 0 0 1 " + times + " 0", 1);
            }
            Run later = one.then("pass 3");
            is(later, "offer 0 0 1 6 1 0", 1);
            refused(later, "offer 0 0 1 6 2 0", ILLEGAL);
            refused(later, "offer 0 0 1 11 1 0", ILLEGAL);
            is(later, "offer 0 0 1 12 1 0", 1);
            Run two = one.then("offer 0 0 1 16 4 0");
            is(two, "offer 0 0 1 15 1 0", 2);
            refused(two, "offer 0 0 1 15 2 0", ILLEGAL);
            refused(two, "offer 0 0 1 14 2 0", ILLEGAL);
        });
    }

    private void hours() {
        sentence("the present hour (0 at first) becomes greater by 1", () -> {
            is(run(""), "count 0", 0);
            is(run("pass 1"), "count 0", 1);
            is(run("pass 1, pass 1"), "count 0", 2);
            is(run("pass 24"), "count 0", 24);
            is(run("text h, carryOut"), "count 0", 1);
            is(run("text h;h, carryOut"), "count 0", 2);
        });
        sentence("each trip that is on the road and arrives in this hour is done", () -> {
            Run offered = run("offer 0 0 1 2 3 0");
            is(offered, "pass 4", 0);
            is(offered.then("pass 4"), "count 4", 0);
            is(offered.then("pass 4"), "pass 1", 1);
            is(offered, "pass 5", 1);
            is(offered.then("pass 5"), "count 4", 1);
            is(offered.then("pass 5"), "pass 24", 0);
            is(run("offer 0 1 2 2 3 0"), "pass 5", 0);
            is(offered.then("takeBack 0"), "pass 5", 0);
        });
        sentence("and its person is in the town to which it went", () -> {
            Run offered = run("offer 0 0 4 2 3 0");
            is(offered.then("pass 4"), "person 0 2", NONE);
            is(offered.then("pass 4"), "person 0 3", 0);
            is(offered.then("pass 5"), "person 0 2", 4);
            is(offered.then("pass 5"), "person 0 3", NONE);
        });
    }

    private void leaving() {
        sentence("each offered trip that leaves in this hour goes on the road, and so does its person", () -> {
            Run offered = run("offer 1 1 0 9 1 0, offer 0 0 4 2 3 0");
            is(offered.then("pass 1"), "person 0 2", 0);
            is(offered.then("pass 1"), "person 0 3", NONE);
            is(offered.then("pass 2"), "person 0 2", NONE);
            is(offered.then("pass 2"), "person 0 3", 1);
            is(offered.then("pass 2"), "count 3", 1);
            is(offered.then("takeBack 1, pass 2"), "person 0 2", 0);
        });
        sentence("if the person is in the town from which it goes", () -> {
            is(run("offer 6 0 4 1 1 0, pass 1"), "trip 0 6", 1);
            is(run("offer 6 5 4 1 1 0, pass 1"), "trip 0 6", 3);
            Run joined = run("offer 0 0 1 1 2 0, offer 0 1 2 3 2 0, pass 3");
            is(joined, "trip 1 6", 1);
            is(joined, "person 0 3", 1);
        });
        sentence("otherwise it is void", () -> {
            Run cameElsewhere = run("offer 0 0 1 1 2 0, offer 0 0 2 3 2 0");
            is(cameElsewhere.then("pass 2"), "trip 1 6", 0);
            is(cameElsewhere.then("pass 3"), "trip 1 6", 3);
            is(cameElsewhere.then("pass 3"), "person 0 2", 1);
            is(cameElsewhere.then("pass 3"), "person 0 3", NONE);
            is(cameElsewhere.then("pass 3, pass 20"), "person 0 2", 1);
        });
        sentence("(Both by ascending numbers.)", () -> {
            Run laterFirst = run("offer 0 1 2 3 2 0, offer 0 0 1 1 2 0");
            is(laterFirst, "pass 3", 1);
            is(laterFirst.then("pass 3"), "trip 0 6", 1);
            is(laterFirst.then("pass 3"), "trip 1 6", 2);
            is(laterFirst, "pass 5", 2);
            is(laterFirst.then("pass 5"), "person 0 2", 2);
        });
    }

    private void parcelNumbers() {
        section("Parcels");
        sentence("There are at most 10 parcels", () -> {
            is(parcels(9), "post 3 7 5 9 0", 9);
            is(parcels(10), "count 5", 10);
            refused(parcels(10), "post 3 7 5 9 0", FULL);
            is(parcels(10).then("undo"), "post 3 7 5 9 0", 9);
            Run delivered = run("post 0 6 0 9 0, gave 0 0 6, took 6 0 0").times(3, "post 0 7 5 9 0");
            delivered = delivered.times(3, "post 1 7 5 9 0").times(2, "post 2 7 5 9 0");
            is(delivered, "post 2 7 5 9 0", 9);
            refused(delivered.then("post 2 7 5 9 0"), "post 3 7 5 9 0", FULL);
        });
        sentence("numbered from 0 in the order in which they were posted", () -> {
            is(run(""), "post 7 0 5 9 0", 0);
            is(run("post 7 0 5 9 0"), "post 1 0 5 9 0", 1);
            are(parcels(10), "parcel # 0", 0, 0, 0, 0, 1, 1, 1, 2, 2, 2, 3);
            is(run("post 0 6 0 9 0, gave 0 0 6, took 6 0 0"), "post 1 0 5 9 0", 1);
            is(run("post 0 6 0 9 0, undo"), "post 1 0 5 9 0", 0);
        });
    }

    private void parcelParts() {
        sentence("a receiver (another person)", () -> {
            for (int sender = 0; sender <= 7; sender++) {
                refused(run(""), "post " + sender + " " + sender + " 5 9 0", INVALID);
                is(run(""), "post " + sender + " " + (sender + 1) % 8 + " 5 9 0", 0);
                is(run(""), "post " + sender + " " + (sender + 7) % 8 + " 5 9 0", 0);
            }
        });
        sentence("and a tier of cover, 0 to 3", () -> range(run(""), "post 0 7 5 9 #", 0, 3));
        sentence("Its state is 0 under way, 1 delivered, 2 lost", () -> {
            Run posted = run("post 0 6 0 9 0");
            is(posted, "parcel 0 5", 0);
            is(posted.then("gave 0 0 6"), "parcel 0 5", 0);
            is(posted.then("gave 0 0 6, took 6 0 0"), "parcel 0 5", 1);
            is(posted.then("putIn 0 0, pass 10"), "parcel 0 5", 0);
            is(posted.then("putIn 0 0, pass 10, claim 0"), "parcel 0 5", 2);
        });
    }

    private void costs() {
        sentence("The cover of the tiers 0 to 3 costs 0, 2, 5 and 10 coins, which the sender pays into the fund", () -> {
            for (int tier = 0; tier <= 3; tier++) {
                Run posted = run("post 4 7 5 9 " + tier);
                is(posted, "count 9", COSTS[tier]);
                is(posted, "person 4 0", 100 - COSTS[tier]);
                Run enough = withCoins(COSTS[tier]);
                is(enough, "post 0 7 5 9 " + tier, 1);
                is(enough.then("post 0 7 5 9 " + tier), "person 0 0", 0);
                is(enough.then("post 0 7 5 9 " + tier), "count 9", COSTS[tier]);
                is(withCoins(COSTS[tier] + 1).then("post 0 7 5 9 " + tier), "person 0 0", 1);
                if (tier > 0) {
                    refused(withCoins(COSTS[tier] - 1), "post 0 7 5 9 " + tier, ILLEGAL);
                }
            }
        });
    }

    /** Parcel 0 of person 0 is in the locker; other parcels of tier 3 bring 10 coins each. */
    private static Run covered(int worth, int tier, int others) {
        Run made = run("post 0 7 5 " + worth + " " + tier + ", putIn 0 0");
        for (int i = 0; i < others; i++) {
            made = made.then("post " + (1 + i / 3) + " 7 5 9 3");
        }
        return made;
    }

    /** Ten parcels bring 100 coins at most, so no more than these can be seen of the tiers 2 and 3. */
    private void covers() {
        sentence("and is up to 0, 50, 200 and 999 coins", () -> {
            int[][] cases = {
                {1, 0, 9, 0}, {999, 0, 9, 0},
                {1, 1, 5, 1}, {49, 1, 5, 49}, {50, 1, 5, 50}, {51, 1, 5, 50}, {999, 1, 9, 50},
                {51, 2, 9, 51}, {94, 2, 9, 94}, {95, 2, 9, 95}, {96, 2, 9, 95}, {999, 2, 9, 95},
                {51, 3, 9, 51}, {99, 3, 9, 99}, {100, 3, 9, 100}, {101, 3, 9, 100}, {999, 3, 9, 100},
            };
            for (int[] one : cases) {
                Run posted = covered(one[0], one[1], one[2]);
                is(posted, "wouldClaim 0 0", one[3]);
                is(posted.then("pass 10"), "claim 0", one[3]);
                is(posted.then("pass 10, claim 0"), "count 9", COSTS[one[1]] + 10 * one[2] - one[3]);
            }
        });
    }

    private void holders() {
        sentence("A parcel under way has a holder: a person, or the locker of a town", () -> {
            for (int town = 0; town <= 5; town++) {
                is(run("post " + town + " 7 5 9 0, putIn " + town + " 0"), "parcel 0 6", 10 + town);
                is(run("post " + town + " 7 5 9 0, putIn " + town + " 0"), "person " + town + " 4", 0);
            }
            Run delivered = run("post 0 6 0 9 0, gave 0 0 6, took 6 0 0");
            is(delivered, "person 6 4", 0);
            is(delivered, "person 0 4", 0);
            is(run("post 0 6 0 9 0, putIn 0 0, pass 10, claim 0"), "inLocker 0", 0);
        });
        sentence("at first its sender", () -> {
            for (int sender = 0; sender <= 7; sender++) {
                Run posted = run("post " + sender + " " + (sender + 1) % 8 + " 5 9 0");
                is(posted, "parcel 0 6", sender);
                is(posted, "person " + sender + " 4", 1);
            }
        });
    }

    private void heldAtMost() {
        sentence("A person can hold at most 3 parcels", () -> {
            Run two = run("post 0 7 5 9 0, post 0 7 5 9 0, post 6 7 5 9 0, post 6 7 5 9 0");
            is(two.then("post 6 7 5 9 0"), "person 6 4", 3);
            is(two, "gave 0 0 6", 0);
            is(two, "took 6 0 0", 0);
            is(two.then("gave 0 0 6, took 6 0 0"), "person 6 4", 3);
            is(two.then("putIn 0 0, fetch 6 0"), "person 6 4", 3);
            Run three = two.then("post 6 0 0 9 0");
            refused(three, "post 6 7 5 9 0", ILLEGAL);
            refused(three, "gave 0 0 6", ILLEGAL);
            refused(three, "took 6 0 0", ILLEGAL);
            refused(three.then("putIn 0 0"), "fetch 6 0", ILLEGAL);
            refused(two.then("gave 0 0 6, post 6 0 0 9 0"), "took 6 0 0", ILLEGAL);
            refused(two.then("took 6 0 0, post 6 0 0 9 0"), "gave 0 0 6", ILLEGAL);
            is(three.then("putIn 6 4"), "gave 0 0 6", 0);
            is(three.then("gave 6 4 0, took 0 4 6"), "took 6 0 0", 0);
            is(three.then("gave 6 4 0, took 0 4 6"), "parcel 4 5", 1);
            Run lost = two.then("gave 6 2 0, took 0 2 6, gave 0 2 6").then("pass 10, claim 2");
            is(lost, "person 0 4", 2);
            is(lost, "post 0 7 5 9 0", 4);
        });
    }

    private void places() {
        sentence("The place of a parcel is the town of its holder (a locker's is that of the locker)", () -> {
            Run posted = run("post 6 7 5 9 0, post 6 7 5 9 0, putIn 6 1, offer 6 0 4 2 3 0");
            is(posted, "parcel 0 10", 0);
            is(posted.then("pass 1"), "parcel 0 10", 0);
            is(posted.then("pass 5"), "parcel 0 10", 4);
            is(posted.then("pass 5"), "parcel 1 10", 0);
            is(run("post 5 7 0 9 0, putIn 5 0"), "parcel 0 10", 5);
        });
        sentence("and it is on the road while its holder is", () -> {
            Run posted = run("post 6 7 5 9 0, post 6 7 5 9 0, putIn 6 1, offer 6 0 4 2 3 0");
            is(posted.then("pass 2"), "parcel 0 10", NONE);
            is(posted.then("pass 4"), "parcel 0 10", NONE);
            is(posted.then("pass 2"), "parcel 1 10", 0);
        });
    }
}
