/** The promises 1 to 5: a new object, offer, takeBack, post and pass. */
final class TripBoundaries extends Boundaries {
    TripBoundaries(Checks checks, Document document) {
        super(checks, document);
    }

    @Override
    void hold() {
        newObject();
        offerRanges();
        offerAnswers();
        offerIllegal();
        offerFull();
        takeBack();
        takeBackIllegal();
        postRanges();
        postAnswers();
        postOnTheRoad();
        postTooPoorOrLaden();
        postFull();
        passHours();
        passDone();
        passErrors();
    }

    private void newObject() {
        section("Promise 1: A new object");
        sentence("Creates towns with their persons, without trips and parcels, and an empty text", () -> {
            for (int what = 0; what <= 15; what++) {
                is(run(""), "count " + what, what == 10 ? 8 * (100 + 40) : 0);
            }
            are(run(""), "inLocker #", 0, 0, 0, 0, 0, 0, 0);
            are(run(""), "person # 2", 0, 0, 1, 2, 3, 4, 5, 0, 1);
            are(run(""), "person # 3", 0, NONE, NONE, NONE, NONE, NONE, NONE, NONE, NONE);
            are(run(""), "person # 4", 0, 0, 0, 0, 0, 0, 0, 0, 0);
            are(run(""), "person # 5", 0, 0, 0, 0, 0, 0, 0, 0, 0);
            refused(run(""), "trip 0 0", INVALID);
            refused(run(""), "parcel 0 0", INVALID);
            refused(run(""), "holderAt 0 0", INVALID);
            refused(run(""), "takeBack 0", INVALID);
            refused(run(""), "restore 0", ILLEGAL);
            refused(run(""), "restore 1", ILLEGAL);
            refused(run(""), "undo", ILLEGAL);
            refused(run(""), "carryOut", -1000);
            is(run(""), "clearText", 0);
            RelayParcels used = new RelayParcels();
            used.pass(7);
            due("another object's hour", new RelayParcels().count(0), 0);
            due("its own hour", used.count(0), 7);
        });
    }

    private void offerRanges() {
        section("Promise 2: offer");
        sentence("`person`: 0 to 7", () -> range(run(""), "offer # 0 1 1 1 0", 0, 7));
        sentence("`from`: 0 to 5", () -> {
            range(run("pass 1"), "offer 0 # 5 1 1 0", 0, 4, 5);
            range(run("pass 1"), "offer 0 # 0 1 1 0", 1, 5, 0);
        });
        sentence("`to`: 0 to 5, another town", () -> {
            range(run("pass 1"), "offer 0 5 # 1 1 0", 0, 4, 5);
            range(run("pass 1"), "offer 0 0 # 1 1 0", 1, 5, 0);
            for (int town = 0; town <= 5; town++) {
                refused(run(""), "offer 0 " + town + " " + town + " 1 1 0", INVALID);
            }
        });
        sentence("`in`: 1 to 50: in how many hours it leaves", () -> {
            range(run(""), "offer 0 0 1 # 1 0", 1, 50);
            range(run("hours 500"), "offer 0 0 1 # 1 0", 1, 50);
            is(run("offer 0 0 1 1 9 0"), "trip 0 3", 1);
            is(run("offer 0 0 1 50 9 0"), "trip 0 3", 50);
            is(run("pass 4, offer 0 0 1 1 9 0"), "trip 0 3", 5);
            is(run("hours 500, offer 0 0 1 50 9 0"), "trip 0 3", 550);
        });
        sentence("`length`: 1 to 50: how many hours it takes", () -> {
            range(run(""), "offer 0 0 1 1 # 0", 1, 50);
            is(run("offer 0 0 1 9 1 0"), "trip 0 4", 10);
            is(run("offer 0 0 1 9 50 0"), "trip 0 4", 59);
            is(run("hours 500, offer 0 0 1 50 50 0"), "trip 0 4", 600);
        });
        sentence("`fee`: 0 to 99", () -> {
            range(run(""), "offer 0 0 1 1 1 #", 0, 99);
            is(run("offer 0 0 1 9 1 0"), "trip 0 5", 0);
            is(run("offer 0 0 1 9 1 99"), "trip 0 5", 99);
        });
    }

    private void offerAnswers() {
        sentence("This is an action.", () -> {
            action(run(""), "offer 0 0 1 1 1 0");
            action(PlaceBoundaries.trips(15), "offer 0 0 1 9 1 0");
            is(run("offer 0 0 1 1 1 0"), "count 14", 1);
        });
        sentence("Returns its number", () -> {
            for (int number = 0; number < 16; number++) {
                is(PlaceBoundaries.trips(number), "offer 0 0 1 9 1 0", number);
            }
            is(run("offer 0 0 1 1 1 0, pass 2"), "offer 0 1 0 1 1 0", 1);
        });
        sentence("INVALID_ARGUMENT if an argument is not as told", () -> {
            Run overlapping = run("offer 0 0 1 1 50 0");
            Run full = PlaceBoundaries.trips(16);
            for (String wrong : new String[] {"-1 0 1 1 1 0", "8 0 1 1 1 0", "0 -1 1 1 1 0", "0 6 1 1 1 0", "0 0 -1 1 1 0",
                "0 0 6 1 1 0", "0 0 0 1 1 0", "0 0 1 0 1 0", "0 0 1 51 1 0", "0 0 1 1 0 0", "0 0 1 1 51 0",
                "0 0 1 1 1 -1", "0 0 1 1 1 100"}) {
                refused(run(""), "offer " + wrong, INVALID);
                refused(overlapping, "offer " + wrong, INVALID);
                refused(full, "offer " + wrong, INVALID);
            }
        });
    }

    private void offerIllegal() {
        sentence("ILLEGAL_STATE if it would overlap with a trip of the person that is offered or on the road", () -> {
            Run offered = run("offer 0 0 1 5 5 0");
            refused(offered, "offer 0 0 1 9 1 0", ILLEGAL);
            refused(offered, "offer 0 0 1 1 5 0", ILLEGAL);
            is(offered, "offer 0 0 1 10 1 0", 1);
            is(offered, "offer 0 0 1 1 4 0", 1);
            is(offered, "offer 6 0 1 5 5 0", 1);
            is(offered.then("takeBack 0"), "offer 0 0 1 5 5 0", 1);
            Run onTheRoad = offered.then("pass 5");
            refused(onTheRoad, "offer 0 0 1 1 1 0", ILLEGAL);
            refused(onTheRoad, "offer 0 0 1 4 1 0", ILLEGAL);
            is(onTheRoad, "offer 0 0 1 5 1 0", 1);
            is(onTheRoad, "offer 6 0 1 1 1 0", 1);
            is(offered.then("pass 9"), "offer 0 0 1 1 1 0", 1);
            is(offered.then("pass 10"), "offer 0 0 1 1 50 0", 1);
            Run isVoid = run("offer 0 1 2 5 5 0");
            refused(isVoid.then("pass 4"), "offer 0 0 1 1 1 0", ILLEGAL);
            is(isVoid.then("pass 5"), "offer 0 0 1 1 1 0", 1);
            refused(PlaceBoundaries.trips(16), "offer 7 0 1 2 1 0", ILLEGAL);
        });
    }

    private void offerFull() {
        sentence("CAPACITY_EXCEEDED if there are 16 trips", () -> {
            is(PlaceBoundaries.trips(15), "offer 7 0 1 3 1 0", 15);
            refused(PlaceBoundaries.trips(16), "offer 7 0 1 3 1 0", FULL);
            refused(PlaceBoundaries.trips(16).then("pass 24"), "offer 7 0 1 3 1 0", FULL);
            refused(PlaceBoundaries.trips(16).then("takeBack 0, takeBack 15"), "offer 7 0 1 3 1 0", FULL);
            refused(PlaceBoundaries.trips(16).then("take 0, take 1"), "offer 7 0 1 3 1 0", FULL);
            is(PlaceBoundaries.trips(15).then("take 0, offer 7 0 1 3 1 0, restore 0"), "offer 7 0 1 4 1 0", 15);
        });
    }

    private void takeBack() {
        section("Promise 3: takeBack");
        sentence("Takes back an offered trip, which is void then", () -> {
            is(run("offer 0 0 1 1 1 0, takeBack 0"), "trip 0 6", 3);
            is(run("offer 0 0 1 1 1 0, takeBack 0, pass 2"), "trip 0 6", 3);
            is(run("offer 0 0 1 1 1 0, takeBack 0, pass 1"), "person 0 2", 0);
            is(run("offer 0 0 1 1 1 0, takeBack 0"), "count 2", 0);
            is(run("offer 0 0 1 1 1 0, takeBack 0"), "count 1", 1);
            is(PlaceBoundaries.trips(16).then("takeBack 15"), "count 2", 15);
        });
        sentence("This is an action.", () -> {
            action(run("offer 0 0 1 1 1 0"), "takeBack 0");
            action(PlaceBoundaries.trips(16), "takeBack 15");
        });
        sentence("`trip`: a trip", () -> {
            range(run("offer 0 0 1 1 1 0"), "takeBack #", 0, 0);
            range(PlaceBoundaries.trips(15), "takeBack #", 0, 14);
            range(PlaceBoundaries.trips(16), "takeBack #", 0, 15);
        });
        sentence("Returns the hour in which it would have left", () -> {
            is(run("offer 0 0 1 1 9 0"), "takeBack 0", 1);
            is(run("offer 0 0 1 50 9 0"), "takeBack 0", 50);
            is(run("offer 0 0 1 50 9 0, hours 49"), "takeBack 0", 50);
            is(run("hours 500, offer 0 0 1 50 9 0"), "takeBack 0", 550);
        });
        sentence("INVALID_ARGUMENT if there is no such trip", () -> {
            refused(run(""), "takeBack 0", INVALID);
            refused(run("offer 0 0 1 1 1 0"), "takeBack -1", INVALID);
            refused(run("offer 0 0 1 1 1 0"), "takeBack 1", INVALID);
            refused(run("offer 0 0 1 1 1 0, undo"), "takeBack 0", INVALID);
            refused(PlaceBoundaries.trips(16), "takeBack 16", INVALID);
        });
    }

    private void takeBackIllegal() {
        sentence("ILLEGAL_STATE if it is not offered", () -> {
            Run offered = run("offer 0 0 1 5 3 0");
            is(offered.then("pass 4"), "takeBack 0", 5);
            refused(offered.then("pass 5"), "takeBack 0", ILLEGAL);
            refused(offered.then("pass 7"), "takeBack 0", ILLEGAL);
            refused(offered.then("pass 8"), "takeBack 0", ILLEGAL);
            refused(offered.then("takeBack 0"), "takeBack 0", ILLEGAL);
            refused(run("offer 0 1 2 5 3 0, pass 5"), "takeBack 0", ILLEGAL);
            is(run("offer 0 1 2 5 3 0, pass 4"), "takeBack 0", 5);
        });
    }

    private void postRanges() {
        section("Promise 4: post");
        sentence("`sender`: 0 to 7", () -> {
            range(run("pass 1"), "post # 7 5 9 0", 0, 6, 7);
            range(run("pass 1"), "post # 0 5 9 0", 1, 7, 0);
        });
        sentence("`receiver`: 0 to 7, another person", () -> {
            range(run("pass 1"), "post 7 # 5 9 0", 0, 6, 7);
            range(run("pass 1"), "post 0 # 5 9 0", 1, 7, 0);
            for (int person = 0; person <= 7; person++) {
                refused(run(""), "post " + person + " " + person + " 5 9 0", INVALID);
            }
        });
        sentence("`town`: 0 to 5: the destination", () -> {
            range(run(""), "post 0 7 # 9 0", 0, 5);
            is(run("post 0 7 0 9 0"), "parcel 0 2", 0);
            is(run("post 0 7 5 9 0"), "parcel 0 2", 5);
        });
        sentence("`worth`: 1 to 999", () -> {
            range(run(""), "post 0 7 5 # 0", 1, 999);
            is(run("post 0 7 5 1 0"), "parcel 0 3", 1);
            is(run("post 0 7 5 999 0"), "parcel 0 3", 999);
        });
        sentence("`tier`: 0 to 3", () -> {
            range(run(""), "post 0 7 5 9 #", 0, 3);
            is(run("post 0 7 5 9 0"), "parcel 0 4", 0);
            is(run("post 0 7 5 9 3"), "parcel 0 4", 3);
        });
    }

    private void postAnswers() {
        sentence("This is an action.", () -> {
            action(run(""), "post 0 7 5 9 3");
            action(PlaceBoundaries.parcels(9), "post 3 7 5 9 0");
        });
        sentence("Returns its number", () -> {
            for (int number = 0; number < 10; number++) {
                is(PlaceBoundaries.parcels(number), "post 4 7 5 9 0", number);
            }
        });
        sentence("INVALID_ARGUMENT if an argument is not as told", () -> {
            Run laden = PlaceBoundaries.parcels(3);
            Run full = PlaceBoundaries.parcels(10);
            for (String wrong : new String[] {"-1 7 5 9 0", "8 7 5 9 0", "0 -1 5 9 0", "0 8 5 9 0", "0 0 5 9 0",
                "0 7 -1 9 0", "0 7 6 9 0", "0 7 5 0 0", "0 7 5 1000 0", "0 7 5 9 -1", "0 7 5 9 4"}) {
                refused(run(""), "post " + wrong, INVALID);
                refused(laden, "post " + wrong, INVALID);
                refused(full, "post " + wrong, INVALID);
            }
            refused(run("offer 0 0 1 1 9 0, pass 1"), "post 0 7 5 9 4", INVALID);
            refused(PlaceBoundaries.withCoins(0), "post 0 7 5 9 4", INVALID);
        });
    }

    private void postOnTheRoad() {
        sentence("ILLEGAL_STATE if the sender is on the road", () -> {
            Run offered = run("offer 0 0 1 2 3 0");
            is(offered.then("pass 1"), "post 0 7 5 9 0", 0);
            refused(offered.then("pass 2"), "post 0 7 5 9 0", ILLEGAL);
            refused(offered.then("pass 4"), "post 0 7 5 9 0", ILLEGAL);
            is(offered.then("pass 5"), "post 0 7 5 9 0", 0);
            is(offered.then("pass 2"), "post 1 0 5 9 0", 0);
        });
    }

    private void postTooPoorOrLaden() {
        sentence("has fewer coins than the cover costs", () -> {
            int[] costs = {0, 2, 5, 10};
            for (int tier = 0; tier <= 3; tier++) {
                is(PlaceBoundaries.withCoins(costs[tier]), "post 0 7 5 9 " + tier, 1);
                for (int higher = tier + 1; higher <= 3; higher++) {
                    refused(PlaceBoundaries.withCoins(costs[higher] - 1), "post 0 7 5 9 " + higher, ILLEGAL);
                    refused(PlaceBoundaries.withCoins(costs[tier]), "post 0 7 5 9 " + higher, ILLEGAL);
                }
            }
        });
        sentence("or holds 3 parcels", () -> {
            is(PlaceBoundaries.parcels(2), "post 0 7 5 9 0", 2);
            refused(PlaceBoundaries.parcels(3), "post 0 7 5 9 0", ILLEGAL);
            is(PlaceBoundaries.parcels(3), "post 1 7 5 9 0", 3);
            is(PlaceBoundaries.parcels(3).then("putIn 0 1"), "post 0 7 5 9 0", 3);
            is(PlaceBoundaries.parcels(3).then("gave 0 1 6, took 6 1 0"), "post 0 7 5 9 0", 3);
            refused(PlaceBoundaries.parcels(3).then("gave 0 1 6"), "post 0 7 5 9 0", ILLEGAL);
            Run receives = PlaceBoundaries.parcels(2).then("post 6 0 0 9 0, gave 6 2 0, took 0 2 6");
            is(receives, "person 0 4", 2);
            is(receives, "post 0 7 5 9 0", 3);
        });
    }

    private void postFull() {
        sentence("CAPACITY_EXCEEDED if there are 10 parcels", () -> {
            is(PlaceBoundaries.parcels(9), "post 3 7 5 9 0", 9);
            refused(PlaceBoundaries.parcels(10), "post 3 7 5 9 0", FULL);
            refused(PlaceBoundaries.parcels(10), "post 7 3 5 9 3", FULL);
            refused(PlaceBoundaries.parcels(10), "post 0 7 5 9 0", ILLEGAL);
            refused(PlaceBoundaries.parcels(10).then("putIn 0 0, pass 10, claim 0"), "post 3 7 5 9 0", FULL);
            Run onTheRoad = PlaceBoundaries.parcels(10).then("offer 3 3 4 1 9 0, pass 1");
            refused(onTheRoad, "post 3 7 5 9 0", ILLEGAL);
            refused(onTheRoad, "post 4 7 5 9 0", FULL);
        });
    }

    private void passHours() {
        section("Promise 5: pass");
        sentence("`hours`: 1 to 24", () -> {
            range(run(""), "pass #", 1, 24);
            range(run("hours 476"), "pass #", 1, 24);
            for (int hours = 1; hours <= 24; hours++) {
                is(run("pass " + hours), "count 0", hours);
            }
        });
        sentence("This is an action.", () -> {
            action(run(""), "pass 1");
            action(run("offer 0 0 1 1 1 0"), "pass 24");
            is(run("pass 24"), "count 14", 1);
            action(run("hours 480"), "pass 20");
        });
    }

    private void passDone() {
        sentence("Returns the number of trips that are done by it", () -> {
            is(run(""), "pass 24", 0);
            is(run("offer 0 0 1 1 23 0"), "pass 23", 0);
            is(run("offer 0 0 1 1 23 0"), "pass 24", 1);
            is(run("offer 0 0 1 1 24 0"), "pass 24", 0);
            is(run("offer 0 0 1 1 24 0, pass 24"), "pass 1", 1);
            is(run("offer 0 0 1 1 1 0, pass 2"), "pass 24", 0);
            is(run("offer 0 1 2 1 1 0"), "pass 24", 0);
            Run all = run("");
            for (int i = 0; i < 16; i++) {
                int town = i % 8 % 6;
                boolean first = i < 8;
                int from = first ? town : (town + 1) % 6;
                int to = first ? (town + 1) % 6 : town;
                all = all.then("offer " + i % 8 + " " + from + " " + to + " " + (first ? 1 : 3) + " 2 0");
            }
            is(all, "pass 2", 0);
            is(all, "pass 3", 8);
            is(all, "pass 4", 8);
            is(all, "pass 5", 16);
            is(all.then("pass 3"), "pass 2", 8);
            is(all.then("pass 24"), "count 4", 16);
        });
    }

    private void passErrors() {
        sentence("INVALID_ARGUMENT if hours is out of range", () -> {
            refused(run(""), "pass 0", INVALID);
            refused(run(""), "pass 25", INVALID);
            refused(run("hours 480"), "pass 25", INVALID);
            refused(run("hours 500"), "pass 0", INVALID);
            refused(run("hours 500"), "pass 25", INVALID);
            refused(run("hours 500"), "pass " + Integer.MAX_VALUE, INVALID);
        });
        sentence("CAPACITY_EXCEEDED if the present hour would be above 500", () -> {
            allowed(run("hours 476"), "pass 24");
            is(run("hours 476, pass 24"), "count 0", 500);
            refused(run("hours 477"), "pass 24", FULL);
            allowed(run("hours 477"), "pass 23");
            refused(run("hours 499"), "pass 2", FULL);
            is(run("hours 499, pass 1"), "count 0", 500);
            refused(run("hours 500"), "pass 1", FULL);
            refused(run("hours 500"), "pass 24", FULL);
            refused(run("hours 490, offer 0 0 1 1 1 0"), "pass 11", FULL);
            is(run("hours 490, offer 0 0 1 9 1 0"), "pass 10", 1);
            is(run("take 0, hours 500, restore 0"), "pass 24", 0);
        });
    }
}
