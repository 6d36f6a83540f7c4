/** What the document says of ways: in its terms, and in the promises 23 and 24. */
final class WayBoundaries extends Boundaries {
    private static final int[] NO_WAY = {NONE, NONE, NONE, NONE, NONE};

    WayBoundaries(Checks checks, Document document) {
        super(checks, document);
    }

    @Override
    void hold() {
        section("Ways");
        beginning();
        onTheRoad();
        joining();
        withoutTrips();
        earliest();
        earliestEdges();
        cheapest();
        cheapestEdges();
    }

    /** The way of parcel 0: earliest hour, fewest trips, smallest first trip, least fees, its hour. */
    private void way(Run run, int... wants) {
        is(run, "earliest 0 0", wants[0]);
        is(run, "earliest 0 1", wants[1]);
        is(run, "earliest 0 2", wants[2]);
        is(run, "cheapest 0 0", wants[3]);
        is(run, "cheapest 0 1", wants[4]);
    }

    private static Run posted(String offers) {
        return run("post 0 7 5 9 0").then(offers);
    }

    private void beginning() {
        sentence("A way for a parcel under way begins at its place in the present hour", () -> {
            way(posted("offer 1 0 5 1 2 7"), 3, 1, 0, 7, 3);
            way(posted("offer 1 0 5 50 50 99"), 100, 1, 0, 99, 100);
            way(posted("offer 1 1 5 1 2 7"), NO_WAY);
            way(posted("offer 1 0 5 3 2 7, pass 2"), 5, 1, 0, 7, 5);
            way(posted("offer 1 0 5 3 2 7, pass 3"), NO_WAY);
            way(posted("offer 6 0 5 3 2 7, pass 3"), NO_WAY);
            way(posted("offer 6 0 5 3 2 7, pass 5"), NO_WAY);
            way(posted("offer 6 0 5 3 2 7, takeBack 0"), NO_WAY);
            way(posted("pass 4, offer 6 0 5 1 2 7"), 7, 1, 0, 7, 7);
            way(posted("putIn 0 0, offer 6 0 5 1 2 7"), 3, 1, 0, 7, 3);
            way(posted("putIn 0 0, offer 0 0 4 1 2 7, offer 6 0 5 3 2 7, pass 1"), 5, 1, 1, 7, 5);
            way(run("hours 500, post 0 7 5 9 0, offer 6 0 5 1 1 7"), 502, 1, 0, 7, 502);
        });
    }

    private void onTheRoad() {
        sentence("or, if it is on the road, at the town to which its holder goes, in the hour in which this arrives", () -> {
            Run leaving = posted("offer 0 0 2 1 4 50");
            way(leaving.then("offer 2 2 5 4 1 1, pass 1"), NO_WAY);
            way(leaving.then("offer 2 2 5 5 1 1, pass 1"), 6, 1, 1, 1, 6);
            way(leaving.then("offer 2 2 5 6 1 1, pass 1"), 7, 1, 1, 1, 7);
            way(leaving.then("offer 2 2 5 5 1 1"), 6, 2, 0, 51, 6);
            way(leaving.then("offer 6 0 5 2 9 1, pass 1"), NO_WAY);
            way(leaving.then("offer 2 2 5 5 1 1, pass 4"), 6, 1, 1, 1, 6);
            way(leaving.then("offer 3 2 5 5 1 1, pass 5"), NO_WAY);
            way(leaving.then("offer 3 2 5 6 1 1, pass 5"), 7, 1, 1, 1, 7);
            way(run("hours 499, post 0 7 5 9 0, offer 0 0 2 1 50 0, offer 6 2 5 50 1 3, offer 7 2 5 50 2 3, pass 1"), NO_WAY);
            way(run("hours 499, post 0 7 5 9 0, offer 0 0 2 1 49 0, offer 6 2 5 50 1 3, pass 1"), 550, 1, 1, 3, 550);
        });
    }

    private void joining() {
        sentence("leaving not earlier than it is there (and later than the present hour)", () -> {
            Run first = posted("offer 1 0 2 3 4 10");
            way(first.then("offer 2 2 5 6 2 20"), NO_WAY);
            way(first.then("offer 2 2 5 7 2 20"), 9, 2, 0, 30, 9);
            way(first.then("offer 2 2 5 8 2 20"), 10, 2, 0, 30, 10);
            way(first.then("offer 2 2 5 50 50 20"), 100, 2, 0, 30, 100);
            way(first.then("offer 2 3 5 7 2 20"), NO_WAY);
            way(posted("offer 2 2 5 7 2 20, offer 1 0 2 3 4 10"), 9, 2, 1, 30, 9);
            way(posted("offer 1 0 5 1 2 7"), 3, 1, 0, 7, 3);
            way(posted("offer 1 0 5 1 2 7, pass 1"), NO_WAY);
        });
        sentence("until it is at the destination", () -> {
            way(posted("offer 1 0 5 1 2 7, offer 2 5 4 3 1 0, offer 3 4 5 4 1 0"), 3, 1, 0, 7, 3);
            way(posted("offer 1 0 4 1 2 7, offer 2 4 3 3 1 0"), NO_WAY);
        });
        sentence("It goes by offered trips, each from the town where it is then", () -> {
            Run needed = chain(5);
            way(needed, 6, 5, 0, 5 * 99, 6);
            way(needed.then("takeBack 0"), NO_WAY);
            way(needed.then("takeBack 2"), NO_WAY);
            way(needed.then("takeBack 4"), NO_WAY);
            Run round = chain(16);
            way(round, 17, 1, 0, 99, 17);
            way(round.then("takeBack 0"), 17, 1, 5, 99, 17);
            way(round.then("takeBack 8"), 17, 1, 0, 99, 17);
            way(round.then("takeBack 15"), NO_WAY);
        });
    }

    /** Trips that join, round the towns 0 to 4, of which only the last one goes to the destination, 5. */
    private static Run chain(int length) {
        Run made = run("post 0 7 5 9 0");
        for (int i = 0; i < length; i++) {
            int to = i == length - 1 ? 5 : (i + 1) % 5;
            made = made.then("offer " + i % 8 + " " + i % 5 + " " + to + " " + (i + 1) + " 1 99");
        }
        return made;
    }

    private void withoutTrips() {
        sentence("A parcel that is there already has the way without trips", () -> {
            Run there = run("post 0 7 0 9 0");
            way(there, 0, 0, NONE, 0, 0);
            way(there.then("pass 24"), 24, 0, NONE, 0, 24);
            way(there.then("putIn 0 0, pass 3"), 3, 0, NONE, 0, 3);
            way(there.then("offer 6 0 1 1 1 0, offer 7 1 0 2 1 0"), 0, 0, NONE, 0, 0);
            way(there.then("gave 0 0 6, took 6 0 0"), 0, 0, NONE, 0, 0);
            Run goesThere = posted("offer 0 0 5 2 4 30");
            way(goesThere.then("pass 1"), 6, 1, 0, 30, 6);
            way(goesThere.then("pass 2"), 6, 0, NONE, 0, 6);
            way(goesThere.then("pass 5"), 6, 0, NONE, 0, 6);
            way(goesThere.then("pass 6"), 6, 0, NONE, 0, 6);
            way(goesThere.then("pass 7"), 7, 0, NONE, 0, 7);
            way(run("post 0 7 0 9 0, offer 0 0 1 1 1 0, pass 1"), NO_WAY);
        });
    }

    private void earliest() {
        section("Promise 23: earliest");
        sentence("0 for the hour in which it is there, 1 for the fewest trips of such a way", () -> {
            Run slow = posted("offer 1 0 5 1 9 1");
            is(slow, "earliest 0 0", 10);
            is(slow.then("offer 2 0 5 2 7 9"), "earliest 0 0", 9);
            is(slow.then("offer 2 0 5 2 8 9"), "earliest 0 0", 10);
            is(slow.then("offer 2 0 5 2 9 9"), "earliest 0 0", 10);
            Run two = posted("offer 1 0 1 1 4 0, offer 2 1 5 5 5 0");
            is(two, "earliest 0 1", 2);
            is(two.then("offer 3 0 5 9 1 0"), "earliest 0 1", 1);
            is(two.then("offer 3 0 5 9 2 0"), "earliest 0 1", 2);
            Run three = posted("offer 1 0 1 1 1 0, offer 2 1 2 2 1 0, offer 3 2 5 3 7 0");
            is(three, "earliest 0 1", 3);
            is(three.then("offer 4 1 5 4 6 0"), "earliest 0 1", 2);
            is(three.then("offer 4 1 5 4 7 0"), "earliest 0 1", 3);
            is(chain(5), "earliest 0 1", 5);
        });
        sentence("2 for the smallest first trip of a way that is there then (by any number of trips", () -> {
            Run direct = posted("offer 1 0 1 1 1 0, offer 2 0 5 3 2 0, offer 3 1 2 2 1 0");
            is(direct, "earliest 0 2", 1);
            is(direct.then("offer 4 2 5 3 2 0"), "earliest 0 2", 0);
            is(direct.then("offer 4 2 5 3 3 0"), "earliest 0 2", 1);
            is(direct.then("offer 4 2 5 3 1 0"), "earliest 0 2", 0);
            is(direct.then("offer 4 0 5 4 1 0"), "earliest 0 2", 1);
            is(posted("offer 1 0 5 4 1 0, offer 2 0 5 3 2 0"), "earliest 0 2", 0);
            is(posted("offer 1 0 5 4 2 0, offer 2 0 5 3 2 0"), "earliest 0 2", 1);
            is(posted("offer 1 0 1 1 1 0, offer 2 1 0 2 1 0, offer 3 0 5 3 1 0"), "earliest 0 2", 0);
            is(posted("offer 1 0 1 1 1 0, offer 2 1 0 3 1 0, offer 3 0 5 3 1 0"), "earliest 0 2", 2);
            is(posted("").times(1, sixteenAlike()), "earliest 0 2", 15);
        });
        sentence("NONE if there is a way without trips)", () -> {
            is(run("post 0 7 0 9 0"), "earliest 0 2", NONE);
            is(run("post 0 7 0 9 0, offer 6 0 1 1 1 0, offer 7 1 0 2 1 0"), "earliest 0 2", NONE);
            is(posted("offer 0 0 5 1 1 0"), "earliest 0 2", 0);
            is(posted("offer 0 0 5 1 1 0, pass 1"), "earliest 0 2", NONE);
        });
    }

    /** Fifteen trips of no use and a last one to the destination. */
    private static String sixteenAlike() {
        StringBuilder offers = new StringBuilder();
        for (int i = 0; i < 15; i++) {
            offers.append("offer ").append(i % 8).append(" 1 2 ").append(1 + i / 8).append(" 1 0, ");
        }
        return offers + "offer 7 0 5 9 1 0";
    }

    private void earliestEdges() {
        sentence("`what`: 0 for the hour", () -> range(posted("offer 1 0 5 1 9 1"), "earliest 0 #", 0, 2));
        sentence("`parcel`: a parcel", () -> {
            range(posted("offer 1 0 5 1 9 1"), "earliest # 0", 0, 0);
            range(PlaceBoundaries.parcels(10), "earliest # 2", 0, 9);
        });
        sentence("INVALID_ARGUMENT if there is no such parcel or what is out of range", () -> {
            refused(run(""), "earliest 0 0", INVALID);
            refused(posted(""), "earliest 0 3", INVALID);
            refused(posted(""), "earliest 1 0", INVALID);
            refused(delivered(), "earliest 0 3", INVALID);
            refused(delivered(), "earliest 0 -1", INVALID);
            refused(posted("undo"), "earliest 0 0", INVALID);
        });
        sentence("ILLEGAL_STATE if it is not under way", () -> {
            for (int what = 0; what <= 2; what++) {
                refused(delivered(), "earliest 0 " + what, ILLEGAL);
                refused(posted("putIn 0 0, pass 10, claim 0"), "earliest 0 " + what, ILLEGAL);
                refused(posted("putIn 0 0, offer 6 0 5 20 1 0, pass 10, claim 0"), "earliest 0 " + what, ILLEGAL);
            }
        });
        sentence("NONE if there is no way", () -> {
            for (int what = 0; what <= 2; what++) {
                is(posted(""), "earliest 0 " + what, NONE);
                is(posted("offer 1 0 4 1 1 0, offer 2 4 3 2 1 0"), "earliest 0 " + what, NONE);
                is(posted("offer 1 4 5 1 1 0"), "earliest 0 " + what, NONE);
            }
        });
    }

    private static Run delivered() {
        return run("post 0 6 0 9 0, gave 0 0 6, took 6 0 0");
    }

    private void cheapest() {
        section("Promise 24: cheapest");
        sentence("0 for this sum", () -> {
            is(posted("offer 1 0 5 1 9 0"), "cheapest 0 0", 0);
            is(posted("offer 1 0 5 1 9 99"), "cheapest 0 0", 99);
            Run two = posted("offer 1 0 1 1 4 20, offer 2 1 5 5 5 30");
            is(two, "cheapest 0 0", 50);
            is(two.then("offer 3 0 5 1 1 51"), "cheapest 0 0", 50);
            is(two.then("offer 3 0 5 1 1 50"), "cheapest 0 0", 50);
            is(two.then("offer 3 0 5 40 9 49"), "cheapest 0 0", 49);
            is(chain(5), "cheapest 0 0", 5 * 99);
            is(chain(15), "cheapest 0 0", 5 * 99);
            is(chain(15), "cheapest 0 1", 16);
            is(posted("offer 1 0 5 1 1 5, offer 2 0 1 1 1 1, offer 3 1 2 2 1 1, offer 4 2 3 3 1 1, offer 6 3 5 4 1 1"), "cheapest 0 0", 4);
        });
        sentence("1 for the earliest hour in which the parcel can be there by a way with this sum", () -> {
            Run two = posted("offer 1 0 1 1 4 20, offer 2 1 5 5 5 30");
            is(two, "cheapest 0 1", 10);
            is(two.then("offer 3 0 5 1 1 51"), "cheapest 0 1", 10);
            is(two.then("offer 3 0 5 1 8 50"), "cheapest 0 1", 9);
            is(two.then("offer 3 0 5 1 10 50"), "cheapest 0 1", 10);
            is(two.then("offer 3 0 5 40 9 49"), "cheapest 0 1", 49);
            is(two.then("offer 3 1 5 6 3 30"), "cheapest 0 1", 9);
            is(two.then("offer 3 1 5 6 3 31"), "cheapest 0 1", 10);
            is(two.then("offer 3 1 5 4 3 30"), "cheapest 0 1", 10);
        });
    }

    private void cheapestEdges() {
        sentence("`what`: 0 for this sum", () -> range(posted("offer 1 0 5 1 9 1"), "cheapest 0 #", 0, 1));
        sentence("`parcel`: a parcel", () -> {
            range(posted("offer 1 0 5 1 9 1"), "cheapest # 0", 0, 0);
            range(PlaceBoundaries.parcels(10), "cheapest # 1", 0, 9);
        });
        sentence("INVALID_ARGUMENT if there is no such parcel or what is out of range", () -> {
            refused(run(""), "cheapest 0 0", INVALID);
            refused(posted(""), "cheapest 0 2", INVALID);
            refused(posted(""), "cheapest 1 0", INVALID);
            refused(delivered(), "cheapest 0 2", INVALID);
            refused(delivered(), "cheapest 0 -1", INVALID);
        });
        sentence("ILLEGAL_STATE if it is not under way", () -> {
            for (int what = 0; what <= 1; what++) {
                refused(delivered(), "cheapest 0 " + what, ILLEGAL);
                refused(posted("putIn 0 0, offer 6 0 5 20 1 0, pass 10, claim 0"), "cheapest 0 " + what, ILLEGAL);
            }
        });
        sentence("NONE if there is no way", () -> {
            for (int what = 0; what <= 1; what++) {
                is(posted(""), "cheapest 0 " + what, NONE);
                is(posted("offer 1 0 4 1 1 0, offer 2 4 3 2 1 0"), "cheapest 0 " + what, NONE);
                is(posted("offer 1 0 4 1 2 0, offer 2 4 5 2 1 0"), "cheapest 0 " + what, NONE);
            }
        });
    }
}
