/** The promises 6 to 10: gave, took, putIn, fetch and claim. */
final class WordBoundaries extends Boundaries {
    private static final String HANDED_TO_6 = "gave 0 0 6, took 6 0 0";

    WordBoundaries(Checks checks, Document document) {
        super(checks, document);
    }

    @Override
    void hold() {
        section("Promise 6: gave");
        gaveArguments();
        gaveAnswers();
        handoverNotUnderWay("gave 0 0 6", "gave 6 0 0");
        gaveHolder();
        handoverTowns("gave 0 0 6");
        handoverLimit("or the other one holds 3 parcels", "gave 0 0 6");
        section("Promise 7: took");
        tookArguments();
        tookAnswers();
        handoverNotUnderWay("took 6 0 0", "took 0 0 6");
        tookHolder();
        handoverTowns("took 6 0 0");
        handoverLimit("or the person holds 3 parcels", "took 6 0 0");
        putInArguments();
        putInAnswers();
        putInIllegal();
        putInFull();
        fetchArguments();
        fetchAnswers();
        fetchIllegal();
        claimAnswers();
        claimErrors();
    }

    private static Run posted() {
        return run("post 0 3 3 9 0");
    }

    private void gaveArguments() {
        sentence("`person`: the holder", () -> {
            is(posted(), "gave 0 0 6", 0);
            is(run("post 7 3 3 9 0"), "gave 7 0 1", 0);
            personsOutOfRange("gave # 0 6");
        });
        sentence("`parcel`: a parcel", () -> parcelsOutOfRange("gave 0 # 6"));
        sentence("`other`: another person", () -> {
            is(run("post 6 3 3 9 0"), "gave 6 0 0", 0);
            is(run("post 1 3 3 9 0"), "gave 1 0 7", 0);
            refused(posted(), "gave 0 0 0", INVALID);
            refused(run("post 7 3 3 9 0"), "gave 7 0 7", INVALID);
            personsOutOfRange("gave 0 0 #");
        });
        sentence("INVALID_ARGUMENT if there is no such person or parcel, or both persons are the same", () -> {
            Run delivered = run("post 0 6 0 9 0, " + HANDED_TO_6);
            for (String wrong : new String[] {"-1 0 6", "8 0 6", "0 -1 6", "0 1 6", "0 0 -1", "0 0 8", "0 0 0", "6 0 6", "3 0 3"}) {
                refused(posted(), "gave " + wrong, INVALID);
                refused(delivered, "gave " + wrong, INVALID);
                refused(posted().then("putIn 0 0"), "gave " + wrong, INVALID);
            }
            refused(run(""), "gave 0 0 6", INVALID);
        });
    }

    private void personsOutOfRange(String call) {
        for (int wrong : new int[] {-1, 8, 10, 16, Integer.MIN_VALUE, Integer.MAX_VALUE}) {
            refused(posted(), call.replace("#", String.valueOf(wrong)), INVALID);
        }
    }

    private void parcelsOutOfRange(String call) {
        for (int wrong : new int[] {-1, 1, 10, 16, Integer.MIN_VALUE, Integer.MAX_VALUE}) {
            refused(posted(), call.replace("#", String.valueOf(wrong)), INVALID);
        }
        Run ten = PlaceBoundaries.parcels(10).then("putIn 0 0");
        refused(ten, call.replace("#", "-1"), INVALID);
        refused(ten, call.replace("#", "10"), INVALID);
    }

    private void gaveAnswers() {
        sentence("This is an action.", () -> {
            action(posted(), "gave 0 0 6");
            action(posted().then("gave 0 0 6"), "gave 0 0 6");
            action(posted().then("took 6 0 0"), "gave 0 0 6");
        });
        sentence("Returns 1 if the handover counts by it and 0 if not", () -> {
            is(posted(), "gave 0 0 6", 0);
            is(posted().then("gave 0 0 6"), "gave 0 0 6", 0);
            is(posted().then("took 6 0 0"), "gave 0 0 6", 1);
            is(posted().then("took 6 0 0, pass 24"), "gave 0 0 6", 1);
            is(posted().then("took 6 0 0, putIn 0 0, fetch 0 0"), "gave 0 0 6", 0);
            is(PlaceBoundaries.parcels(10).then("took 6 0 0"), "gave 0 1 6", 0);
        });
    }

    private void handoverNotUnderWay(String call, String back) {
        sentence("ILLEGAL_STATE if the parcel is not under way", () -> {
            is(posted(), call, 0);
            is(posted().then(HANDED_TO_6 + ", pass 10"), back, 0);
            refused(posted().then(HANDED_TO_6 + ", pass 10, claim 0"), back, ILLEGAL);
            refused(posted().then(HANDED_TO_6 + ", pass 10, claim 0"), call, ILLEGAL);
            Run delivered = run("post 0 6 0 9 0, " + HANDED_TO_6);
            refused(delivered, back, ILLEGAL);
            refused(delivered, call, ILLEGAL);
        });
    }

    private void gaveHolder() {
        sentence("the person is not its holder", () -> {
            refused(posted(), "gave 6 0 0", ILLEGAL);
            refused(posted().then("took 6 0 0"), "gave 6 0 0", ILLEGAL);
            is(posted().then(HANDED_TO_6), "gave 6 0 0", 0);
            refused(posted().then(HANDED_TO_6), "gave 0 0 6", ILLEGAL);
            refused(posted().then("putIn 0 0"), "gave 0 0 6", ILLEGAL);
            is(posted().then("putIn 0 0, fetch 0 0"), "gave 0 0 6", 0);
        });
    }

    private void handoverTowns(String call) {
        sentence("they are not in one town", () -> {
            Run leaves = posted().then("offer 6 0 1 4 3 0");
            is(leaves.then("pass 3"), call, 0);
            refused(leaves.then("pass 4"), call, ILLEGAL);
            refused(leaves.then("pass 7"), call, ILLEGAL);
            Run back = leaves.then("offer 6 1 0 7 2 0");
            refused(back.then("pass 8"), call, ILLEGAL);
            is(back.then("pass 9"), call, 0);
            Run both = leaves.then("offer 0 0 1 4 3 0");
            refused(both.then("pass 4"), call, ILLEGAL);
            refused(both.then("pass 6"), call, ILLEGAL);
            is(both.then("pass 7"), call, 0);
            for (int person = 1; person <= 5; person++) {
                refused(posted(), call.replace("6", String.valueOf(person)), ILLEGAL);
            }
        });
    }

    private void handoverLimit(String words, String call) {
        sentence(words, () -> {
            Run two = posted().times(2, "post 6 3 3 9 0");
            is(two, call, 0);
            is(two.then(HANDED_TO_6), "person 6 4", 3);
            Run three = two.then("post 6 0 0 9 0");
            refused(three, call, ILLEGAL);
            is(three.then("putIn 6 3"), call, 0);
            is(three.then("gave 6 3 0, took 0 3 6"), call, 0);
            is(three.then("gave 6 1 0, took 0 1 6"), call, 0);
            Run receiver = run("post 0 6 0 9 0").times(3, "post 6 3 3 9 0");
            refused(receiver, call, ILLEGAL);
            is(posted().times(2, "post 0 3 3 9 0"), call, 0);
        });
    }

    private void tookArguments() {
        sentence("`person`: a person", () -> {
            is(posted(), "took 6 0 0", 0);
            is(run("post 6 3 3 9 0"), "took 0 0 6", 0);
            is(run("post 1 3 3 9 0"), "took 7 0 1", 0);
            personsOutOfRange("took # 0 0");
        });
        sentence("`parcel`: a parcel", () -> parcelsOutOfRange("took 6 # 0"));
        sentence("`other`: the holder, another person", () -> {
            refused(posted(), "took 0 0 0", INVALID);
            refused(run("post 7 3 3 9 0"), "took 7 0 7", INVALID);
            is(run("post 7 3 3 9 0"), "took 1 0 7", 0);
            personsOutOfRange("took 6 0 #");
        });
        sentence("INVALID_ARGUMENT if there is no such person or parcel, or both persons are the same", () -> {
            Run delivered = run("post 0 6 0 9 0, " + HANDED_TO_6);
            for (String wrong : new String[] {"-1 0 0", "8 0 0", "6 -1 0", "6 1 0", "6 0 -1", "6 0 8", "6 0 10", "0 0 0", "6 0 6"}) {
                refused(posted(), "took " + wrong, INVALID);
                refused(delivered, "took " + wrong, INVALID);
                refused(posted().then("putIn 0 0"), "took " + wrong, INVALID);
            }
            refused(run(""), "took 6 0 0", INVALID);
        });
    }

    private void tookAnswers() {
        sentence("This is an action.", () -> {
            action(posted(), "took 6 0 0");
            action(posted().then("took 6 0 0"), "took 6 0 0");
            action(posted().then("gave 0 0 6"), "took 6 0 0");
        });
        sentence("Returns 1 if the handover counts by it and 0 if not", () -> {
            is(posted(), "took 6 0 0", 0);
            is(posted().then("took 6 0 0"), "took 6 0 0", 0);
            is(posted().then("gave 0 0 6"), "took 6 0 0", 1);
            is(posted().then("gave 0 0 6, pass 24"), "took 6 0 0", 1);
            is(posted().then("gave 0 0 6, putIn 0 0, fetch 0 0"), "took 6 0 0", 0);
            is(PlaceBoundaries.parcels(10).then("gave 0 0 6"), "took 6 1 0", 0);
        });
    }

    private void tookHolder() {
        sentence("the other one is not its holder", () -> {
            refused(posted(), "took 0 0 6", ILLEGAL);
            is(posted().then(HANDED_TO_6), "took 0 0 6", 0);
            refused(posted().then(HANDED_TO_6), "took 6 0 0", ILLEGAL);
            refused(posted().then("putIn 0 0"), "took 6 0 0", ILLEGAL);
            is(posted().then("putIn 0 0, fetch 0 0"), "took 6 0 0", 0);
        });
    }

    private void putInArguments() {
        section("Promise 8: putIn");
        sentence("`person`: the holder", () -> {
            is(posted(), "putIn 0 0", 1);
            is(run("post 7 3 3 9 0"), "putIn 7 0", 1);
            personsOutOfRange("putIn # 0");
        });
        sentence("`parcel`: a parcel", () -> {
            parcelsOutOfRange("putIn 0 #");
            is(PlaceBoundaries.parcels(10), "putIn 3 9", 1);
        });
        sentence("INVALID_ARGUMENT if there is no such person or parcel", () -> {
            refused(run(""), "putIn 0 0", INVALID);
            Run full = run("").times(3, "post 0 3 3 9 0").then("putIn 0 0, putIn 0 1, putIn 0 2");
            for (String wrong : new String[] {"-1 0", "8 0", "0 -1", "0 3", "8 3"}) {
                refused(full, "putIn " + wrong, INVALID);
                refused(full.then("offer 0 0 1 1 9 0, pass 1"), "putIn " + wrong, INVALID);
            }
        });
    }

    private void putInAnswers() {
        sentence("This is an action.", () -> {
            action(posted(), "putIn 0 0");
            action(posted().then("gave 0 0 6, take 1"), "putIn 0 0");
        });
        sentence("Returns the number of parcels in the locker then", () -> {
            Run three = run("").times(3, "post 0 3 3 9 0").then("post 1 3 3 9 0");
            is(three, "putIn 0 2", 1);
            is(three.then("putIn 0 2"), "putIn 0 0", 2);
            is(three.then("putIn 0 2, putIn 0 0"), "putIn 0 1", 3);
            is(three.then("putIn 0 2, putIn 0 0"), "putIn 1 3", 1);
            is(three.then("putIn 0 2, putIn 0 0, fetch 6 2"), "putIn 6 2", 2);
        });
    }

    private void putInIllegal() {
        sentence("ILLEGAL_STATE if the parcel is not under way, the person is not its holder", () -> {
            refused(run("post 0 6 0 9 0, " + HANDED_TO_6), "putIn 6 0", ILLEGAL);
            refused(run("post 0 6 0 9 0, " + HANDED_TO_6), "putIn 0 0", ILLEGAL);
            is(run("post 0 6 1 9 0, " + HANDED_TO_6), "putIn 6 0", 1);
            is(posted().then(HANDED_TO_6 + ", pass 10"), "putIn 6 0", 1);
            refused(posted().then(HANDED_TO_6 + ", pass 10, claim 0"), "putIn 6 0", ILLEGAL);
            refused(posted(), "putIn 6 0", ILLEGAL);
            refused(posted().then("gave 0 0 6"), "putIn 6 0", ILLEGAL);
            refused(posted().then(HANDED_TO_6), "putIn 0 0", ILLEGAL);
            refused(posted().then("putIn 0 0"), "putIn 0 0", ILLEGAL);
        });
        sentence("or is on the road", () -> {
            Run leaves = posted().then("offer 0 0 1 2 3 0");
            is(leaves.then("pass 1"), "putIn 0 0", 1);
            refused(leaves.then("pass 2"), "putIn 0 0", ILLEGAL);
            refused(leaves.then("pass 4"), "putIn 0 0", ILLEGAL);
            is(leaves.then("pass 5"), "putIn 0 0", 1);
            is(leaves.then("pass 5, putIn 0 0"), "inLocker 1", 1);
        });
    }

    private void putInFull() {
        sentence("CAPACITY_EXCEEDED if the locker is full", () -> {
            Run two = run("").times(3, "post 0 3 3 9 0").times(2, "post 6 3 3 9 0").then("putIn 0 0, putIn 0 1");
            is(two, "putIn 6 3", 3);
            is(two, "putIn 0 2", 3);
            Run three = two.then("putIn 0 2");
            refused(three, "putIn 6 3", FULL);
            refused(three, "putIn 0 3", ILLEGAL);
            refused(three, "putIn 0 0", ILLEGAL);
            refused(three.then("pass 24"), "putIn 6 3", FULL);
            is(three.then("fetch 0 0"), "putIn 6 3", 3);
            is(three.then("pass 10, claim 0"), "putIn 6 3", 3);
            is(three.then("offer 6 0 1 1 1 0, pass 2"), "putIn 6 3", 1);
            refused(three.then("offer 6 0 1 1 2 0, pass 2"), "putIn 6 3", ILLEGAL);
        });
    }

    private void fetchArguments() {
        section("Promise 9: fetch");
        sentence("`person`: a person", () -> {
            is(posted().then("putIn 0 0"), "fetch 0 0", 0);
            is(run("post 1 3 3 9 0, putIn 1 0"), "fetch 7 0", 0);
            for (int wrong : new int[] {-1, 8, 10, Integer.MIN_VALUE, Integer.MAX_VALUE}) {
                refused(posted().then("putIn 0 0"), "fetch " + wrong + " 0", INVALID);
            }
        });
        sentence("`parcel`: a parcel", () -> {
            parcelsOutOfRange("fetch 0 #");
            is(PlaceBoundaries.parcels(10).then("putIn 3 9"), "fetch 3 9", 0);
        });
        sentence("INVALID_ARGUMENT if there is no such person or parcel", () -> {
            refused(run(""), "fetch 0 0", INVALID);
            for (String wrong : new String[] {"-1 0", "8 0", "0 -1", "0 3", "8 3"}) {
                refused(PlaceBoundaries.parcels(3), "fetch " + wrong, INVALID);
                refused(PlaceBoundaries.parcels(3).then("offer 0 0 1 1 9 0, pass 1"), "fetch " + wrong, INVALID);
            }
        });
    }

    private void fetchAnswers() {
        sentence("This is an action.", () -> {
            action(posted().then("putIn 0 0"), "fetch 0 0");
            action(posted().then("offer 6 0 1 9 1 30, putIn 0 0"), "fetch 6 0");
            action(run("post 0 6 0 9 0, putIn 0 0"), "fetch 6 0");
        });
        sentence("Returns the number of parcels in the locker then", () -> {
            Run full = PlaceBoundaries.parcels(3).then("putIn 0 0, putIn 0 1, putIn 0 2");
            is(full, "fetch 0 1", 2);
            is(full.then("fetch 0 1"), "fetch 6 0", 1);
            is(full.then("fetch 0 1, fetch 6 0"), "fetch 6 2", 0);
            is(run("post 0 6 0 9 0, post 0 6 0 9 0, putIn 0 0, putIn 0 1"), "fetch 6 0", 1);
            for (int town = 1; town <= 5; town++) {
                Run other = run("").times(3, "post " + town + " 0 0 9 0");
                other = other.then("putIn " + town + " 0, putIn " + town + " 1, putIn " + town + " 2");
                is(other, "fetch " + town + " 0", 2);
                is(other.then("fetch " + town + " 0"), "fetch " + town + " 2", 1);
            }
        });
    }

    private void fetchIllegal() {
        sentence("ILLEGAL_STATE if the parcel is not in the locker of the town in which the person is", () -> {
            refused(posted(), "fetch 0 0", ILLEGAL);
            refused(posted(), "fetch 6 0", ILLEGAL);
            Run put = posted().then("putIn 0 0, offer 0 0 1 2 3 0, offer 0 1 0 5 2 0");
            refused(put, "fetch 1 0", ILLEGAL);
            is(put.then("pass 1"), "fetch 0 0", 0);
            refused(put.then("pass 2"), "fetch 0 0", ILLEGAL);
            refused(put.then("pass 4"), "fetch 0 0", ILLEGAL);
            refused(put.then("pass 5"), "fetch 0 0", ILLEGAL);
            refused(put.then("pass 6"), "fetch 0 0", ILLEGAL);
            is(put.then("pass 7"), "fetch 0 0", 0);
            refused(put.then("fetch 6 0"), "fetch 6 0", ILLEGAL);
            refused(posted().then("putIn 0 0, pass 10, claim 0"), "fetch 0 0", ILLEGAL);
            refused(run("post 0 6 0 9 0, putIn 0 0, fetch 6 0"), "fetch 6 0", ILLEGAL);
            refused(run("post 0 6 0 9 0, putIn 0 0, fetch 6 0"), "fetch 0 0", ILLEGAL);
        });
        sentence("or the person holds 3 parcels", () -> {
            Run two = posted().then("putIn 0 0").times(2, "post 6 0 0 9 0");
            is(two, "fetch 6 0", 0);
            is(two.then("fetch 6 0"), "person 6 4", 3);
            Run three = two.then("post 6 0 0 9 0");
            refused(three, "fetch 6 0", ILLEGAL);
            is(three, "fetch 0 0", 0);
            is(three.then("putIn 6 1"), "fetch 6 0", 1);
            is(three.then("gave 6 1 0, took 0 1 6"), "fetch 6 0", 0);
            Run receiver = run("post 0 6 0 9 0, putIn 0 0").times(3, "post 6 0 0 9 0");
            refused(receiver, "fetch 6 0", ILLEGAL);
        });
    }

    private void claimAnswers() {
        section("Promise 10: claim");
        sentence("This is an action.", () -> {
            action(posted().then("putIn 0 0, pass 10"), "claim 0");
            action(run("post 0 3 3 60 1, " + HANDED_TO_6 + ", gave 6 0 0, pass 10"), "claim 0");
        });
        sentence("`parcel`: a parcel", () -> {
            range(posted().then("putIn 0 0, pass 10"), "claim #", 0, 0);
            is(PlaceBoundaries.parcels(10).then("putIn 3 9, pass 10"), "claim 9", 0);
            refused(PlaceBoundaries.parcels(10).then("putIn 3 9, pass 10"), "claim 10", INVALID);
        });
        sentence("Returns the coins that the sender gets", () -> {
            is(posted().then("putIn 0 0, pass 10"), "claim 0", 0);
            is(run("post 0 3 3 1 1, putIn 0 0, pass 10"), "claim 0", 1);
            is(run("post 0 3 3 999 0, " + HANDED_TO_6 + ", gave 6 0 0, pass 10"), "claim 0", 80);
            Run most = run("post 0 7 5 999 3, " + HANDED_TO_6 + ", gave 6 0 0");
            for (int i = 0; i < 9; i++) {
                most = most.then("post " + (1 + i / 3) + " 7 5 9 3");
            }
            is(most.then("pass 10"), "claim 0", 180);
            is(most.then("pass 10, claim 0"), "person 0 0", 270);
            is(most.then("pass 10, claim 0"), "count 9", 0);
            is(most.then("pass 10, claim 0"), "count 10", 8 * 140);
        });
    }

    private void claimErrors() {
        sentence("INVALID_ARGUMENT if there is no such parcel", () -> {
            refused(run(""), "claim 0", INVALID);
            refused(posted(), "claim -1", INVALID);
            refused(posted(), "claim 1", INVALID);
            refused(posted().then("undo"), "claim 0", INVALID);
        });
        sentence("ILLEGAL_STATE if it cannot be claimed", () -> {
            refused(posted(), "claim 0", ILLEGAL);
            refused(posted().then("pass 24"), "claim 0", ILLEGAL);
            refused(posted().then("putIn 0 0, pass 9"), "claim 0", ILLEGAL);
            is(posted().then("putIn 0 0, pass 10"), "claim 0", 0);
            refused(posted().then("putIn 0 0, pass 10, claim 0"), "claim 0", ILLEGAL);
            refused(run("post 0 6 0 9 0, " + HANDED_TO_6 + ", pass 10"), "claim 0", ILLEGAL);
            refused(run("hours 490").then("post 0 3 3 9 0, pass 1, putIn 0 0, pass 9"), "claim 0", ILLEGAL);
            is(run("hours 490").then("post 0 3 3 9 0, putIn 0 0, pass 10"), "claim 0", 0);
        });
    }
}
