/** The promises 17 to 22 and 25: count, trip, person, parcel, holderAt, inLocker and wouldClaim. */
final class LookBoundaries extends Boundaries {
    private static final String HANDED_TO_6 = "gave 0 0 6, took 6 0 0";

    LookBoundaries(Checks checks, Document document) {
        super(checks, document);
    }

    @Override
    void hold() {
        section("Promise 17: count");
        countedTrips();
        countedParcels();
        countedCoins();
        countedStates();
        countErrors();
        trip();
        person();
        personInTown();
        parcel();
        parcelPlace();
        section("Promise 21: holderAt");
        holderAtHours();
        holderAtHolders();
        holderAtErrors();
        inLocker();
        section("Promise 25: wouldClaim");
        wouldClaimShares();
        wouldClaimNow();
        wouldClaimErrors();
    }

    private static Run posted() {
        return run("post 0 3 3 9 0");
    }

    private void countedTrips() {
        sentence("0 the present hour, 1 the number of trips, 2 of offered ones, 3 of those on the road, 4 of done ones", () -> {
            is(run(""), "count 0", 0);
            is(run("hours 500"), "count 0", 500);
            for (int what = 1; what <= 4; what++) {
                is(run(""), "count " + what, 0);
            }
            Run sixteen = PlaceBoundaries.trips(16);
            are(sixteen, "count #", 1, 16, 16, 0, 0);
            are(sixteen.then("takeBack 0"), "count #", 1, 16, 15, 0, 0);
            are(sixteen.then("pass 1"), "count #", 1, 16, 8, 2, 0);
            are(sixteen.then("pass 2"), "count #", 1, 16, 0, 0, 2);
            Run all = run("");
            for (int person = 0; person <= 7; person++) {
                all = all.then("offer " + person + " " + person % 6 + " " + (person + 1) % 6 + " 2 3 0");
            }
            are(all.then("pass 1"), "count #", 1, 8, 8, 0, 0);
            are(all.then("pass 2"), "count #", 1, 8, 0, 8, 0);
            are(all.then("pass 4"), "count #", 1, 8, 0, 8, 0);
            are(all.then("pass 5"), "count #", 1, 8, 0, 0, 8);
        });
    }

    private void countedParcels() {
        sentence("5 of parcels, 6 of those under way, 7 of delivered ones, 8 of lost ones", () -> {
            are(run(""), "count #", 5, 0, 0, 0, 0);
            are(posted(), "count #", 5, 1, 1, 0, 0);
            are(PlaceBoundaries.parcels(10), "count #", 5, 10, 10, 0, 0);
            Run given = PlaceBoundaries.parcels(2).then("post 6 0 0 9 0, gave 6 2 0");
            are(given, "count #", 5, 3, 3, 0, 0);
            are(given.then("took 0 2 6"), "count #", 5, 3, 2, 1, 0);
            Run mixed = run("post 6 0 0 9 0, gave 6 0 0, took 0 0 6, post 0 3 3 9 0, putIn 0 1, pass 10");
            are(mixed, "count #", 5, 2, 1, 1, 0);
            are(mixed.then("claim 1"), "count #", 5, 2, 0, 1, 1);
            are(mixed.then("claim 1, undo"), "count #", 5, 2, 1, 1, 0);
        });
        sentence("11 the number of handovers that counted, lockers, too", () -> {
            is(run(""), "count 11", 0);
            is(posted(), "count 11", 0);
            is(posted().then("gave 0 0 6"), "count 11", 0);
            is(posted().then(HANDED_TO_6), "count 11", 1);
            is(posted().then("putIn 0 0"), "count 11", 1);
            is(posted().then("putIn 0 0, fetch 6 0"), "count 11", 2);
            is(posted().then("putIn 0 0, pass 10, claim 0"), "count 11", 1);
        });
    }

    private void countedCoins() {
        sentence("9 the coins of the fund, 10 the coins and deposits of all persons together", () -> {
            are(run(""), "count #", 9, 0, 1120);
            Run most = run("");
            for (int i = 0; i < 10; i++) {
                most = most.then("post " + i / 3 + " 7 5 999 3");
            }
            are(most, "count #", 9, 100, 1020);
            are(most.then("putIn 0 0, pass 10, claim 0"), "count #", 9, 0, 1120);
            are(run("post 0 3 3 99 0, " + HANDED_TO_6 + ", pass 10, claim 0"), "count #", 9, 0, 1120);
            are(PlaceBoundaries.withCoins(1), "count #", 9, 0, 1120);
        });
        sentence("12 the fees paid so far", () -> {
            is(run(""), "count 12", 0);
            is(run("offer 6 0 1 9 1 99, post 0 3 3 9 0"), "count 12", 0);
            is(PlaceBoundaries.withCoins(1), "count 12", 99);
            is(PlaceBoundaries.withCoins(99), "count 12", 1);
            is(PlaceBoundaries.withCoins(0), "count 12", 100);
            is(run("offer 6 0 1 9 1 0, post 0 3 3 9 0, " + HANDED_TO_6), "count 12", 0);
        });
    }

    private void countedStates() {
        sentence("13 the number of snapshots, 14 of states in the history, 15 the length of the text", () -> {
            are(run(""), "count #", 13, 0, 0, 0);
            are(run("take 1"), "count #", 13, 1, 1, 0);
            are(run("take 1, take 1"), "count #", 13, 1, 2, 0);
            are(run("take 1, take 0"), "count #", 13, 2, 2, 0);
            are(run("take 1, take 0, restore 1, restore 1, restore 0"), "count #", 13, 2, 5, 0);
            are(run("take 1, take 0, restore 1, restore 1, restore 0, restore 0"), "count #", 13, 2, 5, 0);
            are(run("take 1, take 0, undo"), "count #", 13, 1, 1, 0);
            are(run("text h"), "count #", 13, 0, 0, 1);
            are(run("text " + "h".repeat(80)), "count #", 13, 0, 0, 80);
            are(run("text " + "h".repeat(80) + ", !append 104"), "count #", 13, 0, 0, 80);
            are(run("text h, carryOut"), "count #", 13, 0, 1, 0);
        });
    }

    private void countErrors() {
        sentence("INVALID_ARGUMENT if what is out of range", () -> {
            range(run(""), "count #", 0, 15);
            range(PlaceBoundaries.parcels(10).then("take 0"), "count #", 0, 15);
        });
    }

    private void trip() {
        section("Promise 18: trip");
        sentence("`trip`: a trip", () -> {
            range(run("offer 0 0 1 1 1 0"), "trip # 0", 0, 0);
            range(PlaceBoundaries.trips(15), "trip # 6", 0, 14);
            range(PlaceBoundaries.trips(16), "trip # 3", 0, 15);
        });
        sentence("0 its person, 1 from which town, 2 to which town, 3 the hour in which it leaves, 4 the hour in which it arrives", () -> {
            are(run("offer 0 0 5 1 1 0"), "trip 0 #", 0, 0, 0, 5, 1, 2, 0, 0);
            are(run("hours 500, offer 7 5 0 50 50 99"), "trip 0 #", 0, 7, 5, 0, 550, 600, 99, 0);
            are(PlaceBoundaries.trips(15).then("offer 7 5 0 50 50 99, takeBack 15"), "trip 15 #", 0, 7, 5, 0, 50, 100, 99, 3);
        });
        sentence("6 its state", () -> {
            Run offered = run("offer 0 0 1 1 2 0");
            is(offered, "trip 0 6", 0);
            is(offered.then("pass 1"), "trip 0 6", 1);
            is(offered.then("pass 2"), "trip 0 6", 1);
            is(offered.then("pass 3"), "trip 0 6", 2);
            is(offered.then("takeBack 0"), "trip 0 6", 3);
        });
        sentence("INVALID_ARGUMENT if there is no such trip or what is out of range", () -> {
            refused(run(""), "trip 0 0", INVALID);
            refused(run("offer 0 0 1 1 1 0"), "trip 1 0", INVALID);
            refused(run("offer 0 0 1 1 1 0, undo"), "trip 0 0", INVALID);
            refused(PlaceBoundaries.trips(16), "trip 16 0", INVALID);
            range(run("offer 0 0 1 1 1 0"), "trip 0 #", 0, 6);
            range(PlaceBoundaries.trips(16), "trip 15 #", 0, 6);
            refused(PlaceBoundaries.trips(16), "trip 16 7", INVALID);
        });
    }

    private void person() {
        section("Promise 19: person");
        sentence("`person`: 0 to 7", () -> range(run(""), "person # 5", 0, 7));
        sentence("0 its coins, 1 its deposit", () -> {
            are(run(""), "person 7 #", 0, 100, 40);
            are(PlaceBoundaries.withCoins(0), "person 0 #", 0, 0, 40);
            are(run("post 0 3 3 39 0, " + HANDED_TO_6 + ", pass 10, claim 0"), "person 6 #", 0, 100, 1);
            are(run("post 0 3 3 40 0, " + HANDED_TO_6 + ", pass 10, claim 0"), "person 6 #", 0, 100, 0);
            are(run("post 0 3 3 40 0, " + HANDED_TO_6 + ", pass 10, claim 0"), "person 0 #", 0, 140, 40);
        });
        sentence("4 the number of parcels that it holds, 5 the fees that it got so far", () -> {
            for (int number = 0; number <= 3; number++) {
                is(PlaceBoundaries.parcels(number), "person 0 4", number);
            }
            is(PlaceBoundaries.parcels(3).then("putIn 0 0"), "person 0 4", 2);
            is(run("post 0 6 0 9 0, " + HANDED_TO_6), "person 6 4", 0);
            is(run("post 0 6 1 9 0, " + HANDED_TO_6), "person 6 4", 1);
            is(posted().then(HANDED_TO_6 + ", pass 10, claim 0"), "person 6 4", 0);
            is(run(""), "person 6 5", 0);
            is(PlaceBoundaries.withCoins(1), "person 6 5", 99);
            is(PlaceBoundaries.withCoins(0), "person 6 5", 100);
            is(PlaceBoundaries.withCoins(0), "person 0 5", 0);
        });
        sentence("INVALID_ARGUMENT if an argument is out of range", () -> {
            range(run(""), "person 0 #", 0, 5);
            range(run("offer 7 1 0 1 9 0, pass 1"), "person 7 #", 0, 5);
            refused(run(""), "person 8 6", INVALID);
        });
    }

    private void personInTown() {
        sentence("2 its town (NONE if it is on the road), 3 the trip on which it is (NONE if it is in a town)", () -> {
            Run offered = run("offer 7 1 0 9 9 0, offer 0 0 5 2 3 0, offer 0 5 4 5 1 0");
            are(offered.then("pass 1"), "person 0 #", 2, 0, NONE);
            are(offered.then("pass 2"), "person 0 #", 2, NONE, 1);
            are(offered.then("pass 4"), "person 0 #", 2, NONE, 1);
            are(offered.then("pass 5"), "person 0 #", 2, NONE, 2);
            are(offered.then("pass 6"), "person 0 #", 2, 4, NONE);
            are(offered.then("takeBack 2, pass 5"), "person 0 #", 2, 5, NONE);
            are(PlaceBoundaries.trips(15).then("offer 7 1 0 3 1 0, pass 3"), "person 7 #", 2, NONE, 15);
            are(run("offer 0 0 1 1 9 0, pass 1"), "person 0 #", 2, NONE, 0);
        });
    }

    private void parcel() {
        section("Promise 20: parcel");
        sentence("`parcel`: a parcel", () -> {
            range(posted(), "parcel # 0", 0, 0);
            range(PlaceBoundaries.parcels(9), "parcel # 8", 0, 8);
            range(PlaceBoundaries.parcels(10), "parcel # 6", 0, 9);
        });
        sentence("0 its sender, 1 its receiver, 2 its destination, 3 its worth, 4 its tier, 5 its state", () -> {
            are(run("post 0 7 5 999 3"), "parcel 0 #", 0, 0, 7, 5, 999, 3, 0);
            are(run("post 7 0 0 1 0"), "parcel 0 #", 0, 7, 0, 0, 1, 0, 0);
            are(PlaceBoundaries.parcels(9).then("post 7 0 0 1 0"), "parcel 9 #", 0, 7, 0, 0, 1, 0, 0, 7, 0, NONE, NONE, 1);
            is(run("post 0 6 0 9 0, " + HANDED_TO_6), "parcel 0 5", 1);
            is(posted().then("putIn 0 0, pass 10, claim 0"), "parcel 0 5", 2);
        });
        sentence("6 its holder (a person, or 10 and the town for a locker", () -> {
            is(posted(), "parcel 0 6", 0);
            is(run("post 7 3 3 9 0"), "parcel 0 6", 7);
            is(posted().then("putIn 0 0"), "parcel 0 6", 10);
            is(run("post 5 3 3 9 0, putIn 5 0"), "parcel 0 6", 15);
        });
        sentence("the last one if it is not under way), 7 the hour since which this is its holder", () -> {
            are(run("post 0 6 0 9 0, pass 4, " + HANDED_TO_6 + ", pass 5"), "parcel 0 #", 5, 1, 6, 4, NONE, NONE, NONE);
            are(posted().then("pass 4, putIn 0 0, pass 10, claim 0, pass 5"), "parcel 0 #", 5, 2, 10, 4, NONE, NONE, NONE);
            are(posted().then("pass 4, " + HANDED_TO_6 + ", pass 10, claim 0"), "parcel 0 #", 5, 2, 6, 4, NONE, NONE, NONE);
            is(posted(), "parcel 0 7", 0);
            is(run("hours 500").then("post 0 3 3 9 0"), "parcel 0 7", 500);
            is(posted().then("pass 4, gave 0 0 6, pass 5"), "parcel 0 7", 0);
            is(posted().then("pass 4, gave 0 0 6, pass 5, took 6 0 0, pass 6"), "parcel 0 7", 9);
        });
    }

    private void parcelPlace() {
        sentence("8 the one to whom the holder gave it, by the word that stands (NONE if none does)", () -> {
            is(posted(), "parcel 0 8", NONE);
            is(posted().then("gave 0 0 6"), "parcel 0 8", 6);
            is(run("post 6 3 3 9 0, gave 6 0 0"), "parcel 0 8", 0);
            is(posted().then("took 6 0 0"), "parcel 0 8", NONE);
            is(posted().then("gave 0 0 6, putIn 0 0"), "parcel 0 8", NONE);
        });
        sentence("9 the one who took it, by the word that stands (NONE if none does)", () -> {
            is(posted(), "parcel 0 9", NONE);
            is(posted().then("took 6 0 0"), "parcel 0 9", 6);
            is(run("post 6 3 3 9 0, took 0 0 6"), "parcel 0 9", 0);
            is(posted().then("gave 0 0 6"), "parcel 0 9", NONE);
            is(posted().then("took 6 0 0, putIn 0 0"), "parcel 0 9", NONE);
        });
        sentence("10 its town (NONE if it is on the road, or not under way)", () -> {
            Run leaves = posted().then("offer 0 0 5 2 3 0");
            is(leaves.then("pass 1"), "parcel 0 10", 0);
            is(leaves.then("pass 2"), "parcel 0 10", NONE);
            is(leaves.then("pass 4"), "parcel 0 10", NONE);
            is(leaves.then("pass 5"), "parcel 0 10", 5);
            is(leaves.then("pass 5, putIn 0 0"), "parcel 0 10", 5);
            is(run("post 0 6 0 9 0, " + HANDED_TO_6), "parcel 0 10", NONE);
            is(posted().then("putIn 0 0, pass 10"), "parcel 0 10", 0);
            is(posted().then("putIn 0 0, pass 10, claim 0"), "parcel 0 10", NONE);
        });
        sentence("INVALID_ARGUMENT if there is no such parcel or what is out of range", () -> {
            refused(run(""), "parcel 0 0", INVALID);
            refused(posted(), "parcel 1 0", INVALID);
            refused(posted().then("undo"), "parcel 0 0", INVALID);
            range(posted(), "parcel 0 #", 0, 10);
            range(PlaceBoundaries.parcels(10), "parcel 9 #", 0, 10);
            refused(PlaceBoundaries.parcels(10), "parcel 10 11", INVALID);
        });
    }

    private void holderAtHours() {
        sentence("`hour`: 0 to the present hour", () -> {
            range(posted(), "holderAt 0 #", 0, 0);
            range(posted().then("pass 1"), "holderAt 0 #", 0, 1);
            range(posted().then("hours 499"), "holderAt 0 #", 0, 499);
            range(posted().then("hours 500"), "holderAt 0 #", 0, 500);
            range(posted().then("hours 500, undo"), "holderAt 0 #", 0, 480);
            range(posted().then("take 0, pass 5, restore 0"), "holderAt 0 #", 0, 0);
        });
        sentence("Tells who held a parcel at the end of an hour", () -> {
            Run changed = posted().then("pass 3, putIn 0 0, fetch 6 0, putIn 6 0, pass 2, fetch 6 0, pass 4");
            int[] held = {0, 0, 0, 10, 10, 6, 6, 6, 6, 6};
            are(changed, "holderAt 0 #", 0, held);
            is(posted().then("putIn 0 0, fetch 6 0, putIn 6 0, fetch 0 0"), "holderAt 0 0", 0);
            is(posted().then("putIn 0 0, fetch 6 0, putIn 6 0"), "holderAt 0 0", 10);
            is(posted().then("pass 1, gave 0 0 6, pass 1, took 6 0 0"), "holderAt 0 1", 0);
            is(posted().then("pass 1, gave 0 0 6, pass 1, took 6 0 0"), "holderAt 0 2", 6);
        });
    }

    private void holderAtHolders() {
        sentence("Returns the holder (as told for parcel()), the last one if it was not under way any more", () -> {
            is(run("post 7 0 0 9 0"), "holderAt 0 0", 7);
            is(run("post 5 0 0 9 0, putIn 5 0"), "holderAt 0 0", 15);
            Run delivered = run("post 0 6 0 9 0, pass 2, " + HANDED_TO_6 + ", pass 2");
            are(delivered, "holderAt 0 #", 0, 0, 0, 6, 6, 6);
            Run lost = posted().then("pass 1, putIn 0 0, pass 10, claim 0, pass 2");
            are(lost, "holderAt 0 #", 0, 0, 10, 10, 10, 10, 10, 10, 10, 10, 10, 10, 10, 10, 10);
        });
        sentence("NONE if it had not been posted", () -> {
            are(run("pass 3, post 0 3 3 9 0, pass 1"), "holderAt 0 #", 0, NONE, NONE, NONE, 0, 0);
            are(run("post 1 3 3 9 0, pass 2, post 0 3 3 9 0, pass 1"), "holderAt 1 #", 0, NONE, NONE, 0, 0);
            are(run("post 1 3 3 9 0, pass 2, post 0 3 3 9 0, pass 1"), "holderAt 0 #", 0, 1, 1, 1, 1);
            is(run("hours 500, post 0 3 3 9 0"), "holderAt 0 499", NONE);
            is(run("hours 500, post 0 3 3 9 0"), "holderAt 0 500", 0);
            are(run("take 0, pass 3, post 1 3 3 9 0, restore 0, pass 2, post 0 3 3 9 0"), "holderAt 0 #", 0, NONE, NONE, 0);
        });
    }

    private void holderAtErrors() {
        sentence("`parcel`: a parcel", () -> {
            range(posted(), "holderAt # 0", 0, 0);
            range(PlaceBoundaries.parcels(10), "holderAt # 0", 0, 9);
        });
        sentence("INVALID_ARGUMENT if an argument is out of range", () -> {
            refused(run(""), "holderAt 0 0", INVALID);
            refused(posted(), "holderAt 0 1", INVALID);
            refused(posted(), "holderAt 0 -1", INVALID);
            refused(posted(), "holderAt 1 0", INVALID);
            refused(posted(), "holderAt -1 0", INVALID);
            refused(run("pass 3, post 0 3 3 9 0"), "holderAt 0 -1", INVALID);
            refused(run("pass 3, post 0 3 3 9 0"), "holderAt 0 4", INVALID);
            refused(run("hours 500, post 0 3 3 9 0"), "holderAt 0 501", INVALID);
        });
    }

    private void inLocker() {
        section("Promise 22: inLocker");
        sentence("`town`: 0 to 5", () -> {
            range(run(""), "inLocker #", 0, 5);
            range(PlaceBoundaries.parcels(3).then("putIn 0 0"), "inLocker #", 0, 5);
        });
        sentence("Returns the number of parcels in a locker", () -> {
            Run three = PlaceBoundaries.parcels(3).then("post 5 0 0 9 0");
            are(three, "inLocker #", 0, 0, 0, 0, 0, 0, 0);
            are(three.then("putIn 0 0"), "inLocker #", 0, 1, 0, 0, 0, 0, 0);
            are(three.then("putIn 0 0, putIn 0 1, putIn 0 2, putIn 5 3"), "inLocker #", 0, 3, 0, 0, 0, 0, 1);
            are(three.then("putIn 0 0, fetch 6 0, putIn 5 3"), "inLocker #", 0, 0, 0, 0, 0, 0, 1);
            are(three.then("putIn 0 0, putIn 5 3, pass 10, claim 3"), "inLocker #", 0, 1, 0, 0, 0, 0, 0);
        });
        sentence("INVALID_ARGUMENT if town is out of range", () -> {
            refused(run(""), "inLocker -1", INVALID);
            refused(run(""), "inLocker 6", INVALID);
            refused(posted().then("putIn 0 0"), "inLocker 10", INVALID);
        });
    }

    /** What the fund, the holder and the one whom its word names would pay for parcel 0. */
    private void shares(Run run, int fund, int holder, int named) {
        are(run, "wouldClaim 0 #", 0, fund, holder, named);
        int hour = run.answer("count 0");
        Run ready = run.then("pass " + Math.max(1, 10 - hour));
        is(ready, "claim 0", fund + holder + named);
        same(run.then("wouldClaim 0 0, wouldClaim 0 1, wouldClaim 0 2"), run);
    }

    private void wouldClaimShares() {
        sentence("0 for what the fund would pay", () -> {
            shares(run("post 0 3 3 1 0, putIn 0 0"), 0, 0, 0);
            shares(run("post 0 3 3 1 1, putIn 0 0"), 1, 0, 0);
            shares(run("post 0 3 3 2 1, putIn 0 0"), 2, 0, 0);
            shares(run("post 0 3 3 3 1, putIn 0 0"), 2, 0, 0);
            shares(run("post 0 3 3 999 1, post 1 3 3 9 3, putIn 0 0"), 12, 0, 0);
            for (int worth = 49; worth <= 51; worth++) {
                Run many = run("post 0 3 3 " + worth + " 1, putIn 0 0").times(3, "post 1 3 3 9 3").times(2, "post 2 3 3 9 3");
                shares(many, Math.min(worth, 50), 0, 0);
            }
        });
        sentence("1 for what the holder would owe and can pay", () -> {
            for (int worth : new int[] {1, 39, 40, 41, 999}) {
                shares(run("post 0 3 3 " + worth + " 0, " + HANDED_TO_6), 0, Math.min(worth, 40), 0);
                shares(run("post 0 3 3 " + worth + " 0, putIn 0 0"), 0, 0, 0);
            }
            shares(run("post 0 3 3 2 1, " + HANDED_TO_6), 2, 0, 0);
            shares(run("post 0 3 3 3 1, " + HANDED_TO_6), 2, 1, 0);
            shares(run("post 0 3 3 42 1, " + HANDED_TO_6), 2, 40, 0);
            shares(run("post 0 3 3 43 1, " + HANDED_TO_6), 2, 40, 0);
        });
        sentence("2 for what the one to whom it gave the parcel would owe and can pay", () -> {
            int[][] cases = {{1, 1, 0}, {2, 1, 1}, {3, 2, 1}, {79, 40, 39}, {80, 40, 40}, {81, 40, 40}, {82, 40, 40}, {999, 40, 40}};
            for (int[] one : cases) {
                shares(run("post 0 3 3 " + one[0] + " 0, " + HANDED_TO_6 + ", gave 6 0 0"), 0, one[1], one[2]);
                shares(run("post 0 3 3 " + one[0] + " 0, " + HANDED_TO_6 + ", took 0 0 6"), 0, Math.min(one[0], 40), 0);
            }
            shares(run("post 0 3 3 2 1, " + HANDED_TO_6 + ", gave 6 0 0"), 2, 0, 0);
            shares(run("post 0 3 3 3 1, " + HANDED_TO_6 + ", gave 6 0 0"), 2, 1, 0);
            shares(run("post 0 3 3 4 1, " + HANDED_TO_6 + ", gave 6 0 0"), 2, 1, 1);
            shares(run("post 0 3 3 61 0, " + HANDED_TO_6 + ", gave 6 0 0, putIn 6 0"), 0, 0, 0);
        });
    }

    private void wouldClaimNow() {
        sentence("Tells what a claim would bring, if it could be made now", () -> {
            Run handed = run("post 0 3 3 50 1, " + HANDED_TO_6);
            is(handed, "wouldClaim 0 1", 40);
            refused(handed, "claim 0", ILLEGAL);
            is(handed.then("pass 9"), "wouldClaim 0 1", 40);
            is(handed.then("pass 10"), "wouldClaim 0 1", 40);
            is(handed, "wouldClaim 0 0", 2);
            is(handed.then("post 1 3 3 9 1"), "wouldClaim 0 0", 4);
        });
    }

    private void wouldClaimErrors() {
        Run handed = posted().then(HANDED_TO_6);
        sentence("`parcel`: a parcel", () -> {
            range(handed, "wouldClaim # 0", 0, 0);
            is(PlaceBoundaries.parcels(10).then("putIn 3 9"), "wouldClaim 9 0", 0);
            refused(PlaceBoundaries.parcels(10).then("putIn 3 9"), "wouldClaim 10 0", INVALID);
        });
        sentence("`what`: 0 for what the fund would pay", () -> range(handed, "wouldClaim 0 #", 0, 2));
        sentence("INVALID_ARGUMENT if there is no such parcel or what is out of range", () -> {
            refused(run(""), "wouldClaim 0 0", INVALID);
            refused(handed, "wouldClaim 1 0", INVALID);
            refused(handed, "wouldClaim 0 3", INVALID);
            refused(posted(), "wouldClaim 0 3", INVALID);
            refused(handed.then("pass 10, claim 0"), "wouldClaim 0 -1", INVALID);
        });
        sentence("ILLEGAL_STATE if it is not under way, or its holder is its sender", () -> {
            for (int what = 0; what <= 2; what++) {
                refused(posted(), "wouldClaim 0 " + what, ILLEGAL);
                refused(posted().then("pass 24"), "wouldClaim 0 " + what, ILLEGAL);
                refused(posted().then("gave 0 0 6"), "wouldClaim 0 " + what, ILLEGAL);
                refused(handed.then("gave 6 0 0, took 0 0 6"), "wouldClaim 0 " + what, ILLEGAL);
                refused(handed.then("pass 10, claim 0"), "wouldClaim 0 " + what, ILLEGAL);
                refused(run("post 0 6 0 9 0, " + HANDED_TO_6), "wouldClaim 0 " + what, ILLEGAL);
            }
            is(posted().then("putIn 0 0"), "wouldClaim 0 0", 0);
            is(handed.then("gave 6 0 0"), "wouldClaim 0 0", 0);
            is(run("post 0 6 1 9 0, " + HANDED_TO_6), "wouldClaim 0 1", 9);
        });
    }
}
