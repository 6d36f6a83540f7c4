/** What the document says of snapshots, undo and errors: in its terms, and in the promises 11 to 13. */
final class KeepBoundaries extends Boundaries {
    /** Trips and parcels in each state, a word of each kind, both slots and the history full, a text with a fault. */
    private static final Run RICH = run("offer 6 0 3 40 8 30, offer 1 1 2 1 3 7, offer 2 2 5 2 45 9, offer 4 1 2 1 1 0")
        .then("post 0 3 3 60 1, post 0 6 0 10 0, post 5 1 0 20 0, post 0 3 3 10 0, putIn 5 2")
        .then("gave 0 1 6, took 6 1 0, gave 0 0 6, took 6 0 0, pass 12, claim 2")
        .then("take 0, gave 6 0 0, took 6 3 0, take 1, text h;p0");

    KeepBoundaries(Checks checks, Document document) {
        super(checks, document);
    }

    @Override
    void hold() {
        section("Snapshots");
        slots();
        snapshots();
        numbersGivenAnew();
        section("Undo");
        statesKept();
        statesHold();
        actions();
        noActions();
        sixth();
        latest();
        section("Errors");
        refusedCalls();
        refusedForWantOfRoom();
        firstOfSeveral();
        noneIsLast();
        constants();
        whatCouldBe();
        take();
        restore();
        undo();
    }

    private static Run passes(int number) {
        Run made = run("");
        for (int i = 1; i <= number; i++) {
            made = made.then("pass " + i);
        }
        return made;
    }

    /** The hour after this many of these passes. */
    private static int hourAfter(int passes) {
        return passes * (passes + 1) / 2;
    }

    private void slots() {
        sentence("There are two slots for snapshots", () -> {
            range(run(""), "take #", 0, 1);
            range(run("take 0, take 1"), "restore #", 0, 1);
            Run both = run("take 0, pass 5, take 1, pass 7");
            is(both, "count 13", 2);
            is(both, "restore 0", 0);
            is(both, "restore 1", 5);
            is(both.then("restore 0"), "restore 1", 5);
            is(both.then("restore 1"), "restore 0", 0);
        });
        sentence("empty at first", () -> {
            is(run(""), "count 13", 0);
            refused(run(""), "restore 0", ILLEGAL);
            refused(run(""), "restore 1", ILLEGAL);
            refused(run("take 0"), "restore 1", ILLEGAL);
            refused(run("take 1"), "restore 0", ILLEGAL);
            is(run("pass 3, take 1"), "restore 1", 3);
        });
    }

    private void snapshots() {
        String changes = ", takeBack 0, offer 7 1 2 1 1 0, post 0 1 0 5 3, putIn 6 0, gave 0 3 6, pass 24, pass 20, claim 0";
        sentence("A snapshot keeps everything but the text, the slots and the history", () -> {
            differ(RICH.then("take 0" + changes), RICH.then("take 0"));
            sameWorld(RICH.then("take 0" + changes + ", restore 0"), RICH);
            sameWorld(RICH.then("take 1" + changes + ", restore 1"), RICH);
            is(RICH.then("take 0, append 48, restore 0"), "count 15", 5);
            is(RICH.then("append 48, append 51, take 0, clearText, restore 0"), "count 15", 0);
            is(RICH.then("take 0, clearText, append 104, restore 0"), "carryOut", 1);
            is(run("take 0, take 1, restore 0"), "count 13", 2);
            is(run("take 0, pass 3, take 1, restore 0"), "restore 1", 3);
            is(run("take 0, pass 3, restore 0"), "count 14", 3);
            is(run("take 0, pass 3, restore 0, undo"), "count 0", 3);
        });
        sentence("To restore it makes all this as it was", () -> {
            Run full = PlaceBoundaries.parcels(10).then("gave 0 0 6, took 6 0 0, gave 1 3 7");
            for (int i = 0; i < 16; i++) {
                full = full.then("offer " + i % 8 + " 0 1 " + (1 + i / 8) + " 1 9");
            }
            sameWorld(run("take 0").then("pass 4, post 0 1 1 9 3, offer 0 0 1 1 1 0, restore 0"), run(""));
            is(run("take 0, pass 4, post 0 1 1 9 3, offer 0 0 1 1 1 0, restore 0"), "offer 0 0 1 1 1 0", 0);
            refused(run("take 0, pass 4, post 0 1 1 9 3, restore 0"), "parcel 0 0", INVALID);
            refused(run("post 0 1 1 9 3, take 0, pass 4, restore 0"), "holderAt 0 1", INVALID);
            sameWorld(run("take 0").then(full).then("restore 0"), run(""));
            sameWorld(run("take 0").then(full).then("take 1, restore 0, restore 1"), full);
            sameWorld(full.then("take 1, pass 24, pass 24, restore 1"), full);
            sameWorld(full.then("take 1, pass 24, putIn 2 6, restore 1, pass 1, restore 1"), full);
        });
    }

    /** A number that is given anew begins anew, whatever bore it before. */
    private void numbersGivenAnew() {
        sentence("To restore it makes all this as it was", () -> {
            Run first = run("offer 2 2 5 4 6 8, post 2 6 1 60 3, putIn 2 0, pass 3, fetch 2 0");
            Run second = run("offer 3 3 1 5 9 5, post 3 4 3 50 2, offer 4 4 3 1 1 5, pass 2, post 3 5 0 50 2, putIn 3 1, fetch 4 1");
            Run both = run("take 1").then(first).then("take 0, restore 1").then(second);
            sameWorld(both, second);
            sameWorld(both.then("restore 0"), first);
            sameWorld(both.then("restore 0, undo"), second);
            sameWorld(both.then("take 1, restore 0, pass 4, restore 1"), second);
            sameWorld(both.then("take 1, restore 0, pass 4, restore 1, restore 0"), first);
            Run anew = run("offer 1 1 2 3 1 0, post 0 6 1 60 1");
            sameWorld(run("take 0, offer 0 0 1 1 1 0, post 0 3 0 5 2, takeBack 0, restore 0").then(anew), anew);
            sameWorld(run("take 0, offer 0 0 1 1 1 0, post 0 6 0 5 2, gave 0 0 6, took 6 0 0, pass 3, restore 0").then(anew), anew);
            sameWorld(run("take 0, post 0 6 0 5 2, gave 0 0 6, restore 0").then(anew), anew);
            sameWorld(run("take 0, post 0 6 0 5 2, putIn 0 0, pass 10, claim 0, restore 0").then(anew), anew);
            sameWorld(run("offer 0 0 1 1 1 0, takeBack 0, undo, undo").then(anew), anew);
            sameWorld(run("post 0 6 0 5 2, gave 0 0 6, took 6 0 0, undo, undo, undo").then(anew), anew);
        });
    }

    private void statesKept() {
        sentence("A history of at most 5 states is kept", () -> {
            for (int number = 0; number <= 13; number++) {
                is(passes(number), "count 14", Math.min(number, 5));
            }
            is(passes(4), "undo", 3);
            is(passes(5), "undo", 4);
            is(passes(6), "undo", 4);
            is(passes(6).then("undo, undo, undo, undo"), "undo", 0);
            refused(passes(6).then("undo, undo, undo, undo, undo"), "undo", ILLEGAL);
            refused(passes(5).then("undo, undo, undo, undo, undo"), "undo", ILLEGAL);
            refused(run(""), "undo", ILLEGAL);
        });
    }

    private void statesHold() {
        sentence("a state is everything but the text and the history (the slots belong to it)", () -> {
            same(run("take 0, undo"), run(""));
            refused(run("take 0, undo"), "restore 0", ILLEGAL);
            refused(run("take 1, undo"), "restore 1", ILLEGAL);
            is(run("take 0, take 1, undo"), "count 13", 1);
            is(run("take 0, pass 3, take 0, undo"), "restore 0", 0);
            is(run("take 1, pass 3, take 1, undo"), "restore 1", 0);
            is(run("take 0, pass 3, take 0, undo, undo"), "restore 0", 0);
            refused(run("take 0, pass 3, take 0, undo, undo, undo"), "restore 0", ILLEGAL);
            is(run("pass 3, take 0, pass 4, restore 0, undo"), "count 0", 7);
            is(run("pass 3, take 0, pass 4, restore 0, undo"), "restore 0", 3);
            is(run("pass 3, append 104, undo"), "count 15", 1);
            is(run("append 104, pass 3, clearText, undo"), "count 15", 0);
            is(run("pass 3, pass 4, undo, undo"), "count 14", 0);
        });
    }

    private void actions() {
        sentence("Every successful call of a method that is called an action records the state before it", () -> {
            action(run(""), "offer 6 0 1 9 1 30");
            action(run("offer 6 0 1 9 1 30"), "takeBack 0");
            action(run(""), "post 0 3 3 60 2");
            action(run("offer 0 0 1 1 1 0"), "pass 3");
            action(run("post 0 3 3 60 2"), "gave 0 0 6");
            action(run("post 0 3 3 60 2"), "took 6 0 0");
            action(run("offer 6 0 1 9 1 30, post 0 3 3 60 2, gave 0 0 6"), "took 6 0 0");
            action(run("post 0 3 3 60 2"), "putIn 0 0");
            action(run("post 0 6 0 60 2, putIn 0 0"), "fetch 6 0");
            action(run("post 0 6 0 60 2, putIn 0 0, pass 10"), "claim 0");
            action(run("pass 3"), "take 0");
            action(run("pass 3, take 0, pass 4"), "take 0");
            action(run("pass 3, take 0, pass 4"), "restore 0");
            action(run("pass 3").then("text h;h"), "carryOut");
            action(RICH, "post 3 0 0 5 1");
            action(RICH, "restore 0");
        });
        sentence("(also if nothing changes by it)", () -> {
            action(run("post 0 3 3 60 2, gave 0 0 6"), "gave 0 0 6");
            action(run("post 0 3 3 60 2, took 6 0 0"), "took 6 0 0");
            action(run("take 0"), "restore 0");
            action(run("pass 1, take 1"), "take 1");
            action(run("").then("text g006"), "carryOut");
            is(run("take 0, restore 0, restore 0"), "count 14", 3);
            is(run("post 0 3 3 60 2").times(4, "gave 0 0 6").then("undo, undo, undo, undo"), "count 5", 1);
            is(run("post 0 3 3 60 2").times(4, "gave 0 0 6").then("undo, undo, undo, undo, undo"), "count 5", 0);
            is(run("post 0 3 3 60 2").times(5, "gave 0 0 6").then("undo, undo, undo, undo, undo"), "count 5", 1);
        });
    }

    private void noActions() {
        sentence("Every successful call of a method that is called an action", () -> {
            Run begun = run("post 0 3 3 60 2, pass 4");
            for (String other : new String[] {"append 104", "clearText", "count 0", "person 0 0", "parcel 0 0", "holderAt 0 0",
                "inLocker 0"}) {
                is(begun.then(other), "count 14", 2);
                is(begun.then(other + ", undo"), "count 0", 0);
            }
            for (String none : new String[] {"earliest 0 0", "cheapest 0 0", "parcel 0 8"}) {
                is(begun, none, NONE);
                is(begun.then("!" + none), "count 14", 2);
            }
            for (String wrong : new String[] {"pass 0", "offer 0 0 0 1 1 1", "takeBack 0", "post 0 0 0 1 1", "gave 0 0 1", "took 1 0 0",
                "putIn 1 0", "fetch 0 0", "claim 0", "take 2", "restore 0", "carryOut", "append 0"}) {
                is(begun.then("!" + wrong), "count 14", 2);
                is(begun.then("!" + wrong + ", undo"), "count 0", 0);
            }
            is(begun.then("undo"), "count 14", 1);
        });
    }

    private void sixth() {
        sentence("when a sixth one is recorded, the oldest one is dropped", () -> {
            String undone = "undo, undo, undo, undo, undo";
            for (int number = 5; number <= 13; number++) {
                Run after = passes(number).then(undone);
                is(after, "count 0", hourAfter(number - 5));
                is(after, "count 14", 0);
                refused(after, "undo", ILLEGAL);
            }
            is(passes(5).then("undo, undo, pass 1, pass 1"), "count 14", 5);
            is(passes(5).then("undo, undo, pass 1, pass 1, " + undone), "count 0", 0);
            is(passes(5).then("undo, undo, pass 1, pass 1, pass 1, " + undone), "count 0", 1);
            is(run("take 0").then("pass 1, pass 1, pass 1, pass 1, pass 1, " + undone), "count 13", 1);
            is(run("take 0").then("pass 1, pass 1, pass 1, pass 1, undo, undo, undo, undo, undo"), "count 13", 0);
        });
    }

    private void latest() {
        sentence("undo() removes the latest state from the history and restores it", () -> {
            for (int number : new int[] {1, 4, 5, 6, 11}) {
                Run run = passes(number);
                for (int left = Math.min(number, 5) - 1; left >= 0; left--) {
                    number--;
                    is(run, "undo", left);
                    run = run.then("undo");
                    is(run, "count 0", hourAfter(number));
                    is(run, "count 14", left);
                }
            }
            is(passes(3).then("undo, pass 9"), "count 0", 12);
            is(passes(3).then("undo, pass 9, undo"), "count 0", 3);
            is(passes(3).then("undo, pass 9, undo, undo"), "count 0", 1);
            same(passes(2).then("undo"), passes(1));
            same(RICH.then("undo"), RICH.then("undo, pass 1, undo"));
            same(passes(4).then("post 0 1 1 9 3, undo"), passes(4));
        });
    }

    private void refusedCalls() {
        sentence("A call that returns an error code changes nothing", () -> {
            for (String wrong : new String[] {"offer -1 0 1 1 1 0", "offer 0 0 0 1 1 0", "offer 0 0 1 1 1 100", "takeBack 4",
                "takeBack -1", "post 3 3 0 1 1", "post 3 0 0 1000 1", "pass 0", "pass 25", "gave 6 4 0", "gave 6 0 6", "took 0 4 6", "took 6 0 6",
                "putIn 8 0", "putIn 6 4", "fetch 8 0", "fetch 6 4", "claim 4", "claim -1", "take 2", "take -1", "restore 2", "restore -1",
                "append 0", "append 256", "count 16", "count -1", "trip 4 0", "trip 0 7", "person 8 0", "person 0 6", "parcel 4 0",
                "parcel 0 11", "holderAt 4 0", "holderAt 0 13", "holderAt 0 -1", "inLocker 6", "inLocker -1", "earliest 0 3",
                "earliest 4 0", "cheapest 0 2", "cheapest 4 0", "wouldClaim 0 3", "wouldClaim 4 0"}) {
                refused(RICH, wrong, INVALID);
            }
            for (String illegal : new String[] {"offer 6 0 1 27 5 0", "offer 2 2 5 30 9 0", "takeBack 1", "takeBack 2", "takeBack 3",
                "post 2 3 3 1 0", "gave 0 0 6", "gave 6 0 1", "gave 6 1 0", "took 0 1 6", "took 1 0 6", "took 0 0 3", "putIn 0 0",
                "putIn 6 1", "fetch 5 2", "fetch 6 3", "claim 1", "claim 2", "claim 3", "earliest 1 0", "earliest 2 2", "cheapest 1 0",
                "wouldClaim 1 0", "wouldClaim 3 0"}) {
                refused(RICH, illegal, ILLEGAL);
            }
            refused(RICH, "carryOut", -1004);
            refused(RICH.then("clearText"), "carryOut", -1000);
        });
    }

    private void refusedForWantOfRoom() {
        sentence("`CAPACITY_EXCEEDED = -3`: There is no room", () -> {
            due("the constant", RelayParcels.CAPACITY_EXCEEDED, FULL);
            String kept = "take 0, pass 1, take 1";
            refused(PlaceBoundaries.trips(16).then(kept), "offer 0 0 1 50 1 0", FULL);
            refused(PlaceBoundaries.parcels(10).then(kept), "post 3 7 5 9 3", FULL);
            refused(run("hours 489").then(kept + ", pass 10"), "pass 1", FULL);
            refused(PlaceBoundaries.parcels(3).then("putIn 0 0, putIn 0 1, putIn 0 2, post 6 3 3 9 1").then(kept), "putIn 6 3", FULL);
            refused(run(kept).then("text " + "h".repeat(80)), "append 104", FULL);
        });
    }

    private void firstOfSeveral() {
        sentence("If several error conditions apply, the method returns the one that its description lists first", () -> {
            Run full = PlaceBoundaries.trips(16);
            refused(full, "offer 0 0 1 1 1 100", INVALID);
            refused(full, "offer 0 0 1 1 1 0", ILLEGAL);
            Run posted = PlaceBoundaries.parcels(10).then("offer 3 3 4 1 9 0, pass 1");
            refused(posted, "post 3 3 5 9 0", INVALID);
            refused(posted, "post 3 7 5 9 0", ILLEGAL);
            refused(posted, "post 0 7 5 9 0", ILLEGAL);
            refused(run("hours 500"), "pass 25", INVALID);
            refused(posted, "gave 5 0 5", INVALID);
            refused(posted, "took 5 0 5", INVALID);
            refused(posted, "gave 5 10 6", INVALID);
            Run filled = PlaceBoundaries.parcels(3).then("putIn 0 0, putIn 0 1, putIn 0 2, post 6 3 3 9 1");
            refused(filled, "putIn 8 3", INVALID);
            refused(filled, "putIn 0 3", ILLEGAL);
            refused(run("").then("text " + "h".repeat(80)), "append 0", INVALID);
            refused(run(""), "restore 2", INVALID);
            Run delivered = run("post 0 6 0 9 0, gave 0 0 6, took 6 0 0");
            refused(delivered, "earliest 0 3", INVALID);
            refused(delivered, "cheapest 0 2", INVALID);
            refused(delivered, "wouldClaim 0 3", INVALID);
            refused(delivered, "wouldClaim 1 0", INVALID);
        });
    }

    private void noneIsLast() {
        sentence("NONE is no error, and it is returned only if no error condition applies", () -> {
            Run later = run("offer 6 0 1 2 9 0, pass 3, post 0 7 5 9 0");
            is(later, "holderAt 0 2", NONE);
            refused(later, "holderAt 0 -1", INVALID);
            refused(later, "holderAt 0 4", INVALID);
            refused(later, "holderAt 1 2", INVALID);
            is(later, "person 6 2", NONE);
            is(later, "person 0 3", NONE);
            refused(later, "person 8 2", INVALID);
            is(later, "parcel 0 8", NONE);
            refused(later, "parcel 1 8", INVALID);
            is(later, "earliest 0 2", NONE);
            refused(later, "earliest 0 3", INVALID);
            refused(later, "earliest 1 2", INVALID);
            is(later, "cheapest 0 1", NONE);
            refused(later, "cheapest 0 2", INVALID);
            Run lost = later.then("putIn 0 0, pass 10, claim 0");
            refused(lost, "earliest 0 0", ILLEGAL);
            refused(lost, "cheapest 0 0", ILLEGAL);
        });
    }

    private void constants() {
        sentence("`INVALID_ARGUMENT = -1`: An argument is out of range, or names something that does not exist", () -> {
            due("the constant", RelayParcels.INVALID_ARGUMENT, INVALID);
            refused(run("offer 0 0 1 1 1 0"), "trip 1 0", RelayParcels.INVALID_ARGUMENT);
            is(run("offer 0 0 1 1 1 0"), "trip 0 0", 0);
        });
        sentence("`ILLEGAL_STATE = -2`: The call is not possible in the present state", () -> {
            due("the constant", RelayParcels.ILLEGAL_STATE, ILLEGAL);
            refused(run(""), "undo", RelayParcels.ILLEGAL_STATE);
            is(run("pass 1"), "undo", 0);
        });
        sentence("`NONE = -9`: There is no such value", () -> {
            due("the constant", RelayParcels.NONE, NONE);
            is(run(""), "person 0 3", RelayParcels.NONE);
        });
    }

    private void whatCouldBe() {
        sentence("---- what could be, which changes nothing", () -> {
            Run two = run("post 0 7 5 10 0, post 0 7 2 10 0, offer 1 0 5 1 2 4, offer 2 0 2 3 4 5, offer 3 5 2 4 1 6");
            String asked = "earliest 0 0, earliest 1 0, cheapest 0 0, cheapest 1 0";
            same(two.then(asked), two);
            same(two.then(asked + ", takeBack 2"), two.then("takeBack 2"));
            same(two.then(asked + ", takeBack 0, takeBack 1"), two.then("takeBack 0, takeBack 1"));
            same(two.then("earliest 1 2, earliest 0 2, takeBack 1"), two.then("takeBack 1"));
            is(two.then("earliest 1 0, takeBack 0, takeBack 1"), "earliest 1 0", NONE);
            is(two.then("earliest 1 0, takeBack 0, takeBack 1"), "earliest 0 0", NONE);
            is(two.then("earliest 1 0"), "earliest 0 0", 3);
            is(two.then("cheapest 0 1"), "earliest 0 1", 1);
            is(two.then("cheapest 1 0"), "earliest 1 0", 5);
            is(two.then("earliest 1 0"), "cheapest 1 1", 7);
            Run others = run("post 0 7 5 10 0, post 0 7 2 10 0, offer 1 0 5 1 2 4");
            is(others.then("earliest 0 0"), "earliest 1 0", NONE);
            is(others.then("offer 2 0 4 1 1 0, offer 3 4 5 2 1 0, earliest 0 0"), "earliest 1 0", NONE);
            is(others.then("offer 2 0 4 1 1 0, offer 3 4 5 2 1 0, cheapest 0 0"), "cheapest 1 0", NONE);
            Run handed = run("post 0 3 3 61 1, gave 0 0 6, took 6 0 0, gave 6 0 0");
            same(handed.then("wouldClaim 0 0, wouldClaim 0 1, wouldClaim 0 2"), handed);
        });
    }

    private void take() {
        section("Promise 11: take");
        sentence("Takes a snapshot, in place of one that is there", () -> {
            for (int slot = 0; slot <= 1; slot++) {
                is(run("pass 3, take " + slot + ", pass 4, take " + slot), "count 13", 1);
                is(run("pass 3, take " + slot + ", pass 4, take " + slot + ", pass 1"), "restore " + slot, 7);
                is(run("pass 3, take 0, take 1, pass 4, take " + slot), "restore " + (1 - slot), 3);
                is(run("pass 3, take 0, take 1, pass 4, take " + slot), "count 13", 2);
            }
        });
        sentence("This is an action.", () -> {
            action(run(""), "take 0");
            action(run(""), "take 1");
            action(run("take 0, pass 3"), "take 0");
            action(RICH, "take 1");
        });
        sentence("`slot`: 0 or 1", () -> {
            range(run(""), "take #", 0, 1);
            range(RICH, "take #", 0, 1);
        });
        sentence("Returns the present hour", () -> {
            is(run(""), "take 0", 0);
            is(run("pass 1"), "take 1", 1);
            is(run("hours 500"), "take 1", 500);
            is(run("hours 20, take 0, hours 30, restore 0"), "take 1", 20);
        });
        sentence("INVALID_ARGUMENT if slot is out of range", () -> {
            refused(run(""), "take -1", INVALID);
            refused(run("take 0, take 1"), "take 2", INVALID);
        });
    }

    private void restore() {
        section("Promise 12: restore");
        sentence("Restores a snapshot, which stays", () -> {
            Run taken = run("pass 3, take 1, pass 4");
            is(taken.then("restore 1"), "count 13", 1);
            is(taken.then("restore 1, pass 9"), "restore 1", 3);
            is(taken.then("restore 1, pass 9, restore 1, pass 9"), "restore 1", 3);
            Run changed = run("post 0 3 3 9 0, take 0, restore 0, gave 0 0 6, took 6 0 0");
            is(changed.then("restore 0"), "parcel 0 6", 0);
            is(changed.then("restore 0, putIn 0 0, restore 0"), "parcel 0 6", 0);
        });
        sentence("This is an action.", () -> {
            action(run("take 0"), "restore 0");
            action(run("pass 3, take 1, pass 4"), "restore 1");
            action(RICH, "restore 0");
            action(RICH, "restore 1");
        });
        sentence("`slot`: 0 or 1", () -> range(RICH, "restore #", 0, 1));
        sentence("Returns the present hour then", () -> {
            is(run("take 0, hours 500"), "restore 0", 0);
            is(run("hours 500, take 0"), "restore 0", 500);
            is(run("pass 7, take 1, pass 3, take 0"), "restore 1", 7);
            is(run("pass 7, take 1, pass 3, take 0, restore 1"), "restore 0", 10);
        });
        sentence("INVALID_ARGUMENT if slot is out of range", () -> {
            refused(run(""), "restore -1", INVALID);
            refused(run(""), "restore 2", INVALID);
            refused(run("take 0, take 1"), "restore 2", INVALID);
        });
        sentence("ILLEGAL_STATE if the slot is empty", () -> {
            refused(run(""), "restore 0", ILLEGAL);
            refused(run(""), "restore 1", ILLEGAL);
            refused(run("take 0"), "restore 1", ILLEGAL);
            refused(run("take 1"), "restore 0", ILLEGAL);
            refused(run("take 0, undo"), "restore 0", ILLEGAL);
            refused(run("take 0, take 1, undo"), "restore 1", ILLEGAL);
            is(run("take 0, take 1, undo"), "restore 0", 0);
        });
    }

    private void undo() {
        section("Promise 13: undo");
        sentence("Removes the latest state from the history and restores it", () -> {
            for (int number = 0; number < 5; number++) {
                same(passes(number).then("pass 24, undo"), passes(number));
            }
            sameWorld(RICH.then("undo"), RICH.then("undo, pass 1, undo"));
            is(run("pass 24, undo"), "count 0", 0);
            is(run("pass 24, undo"), "count 14", 0);
        });
        sentence("Returns the number of states that are left in the history", () -> {
            for (int number = 1; number <= 8; number++) {
                is(passes(number), "undo", Math.min(number, 5) - 1);
            }
            is(passes(8).then("undo, undo, undo, undo"), "undo", 0);
        });
        sentence("ILLEGAL_STATE if it is empty", () -> {
            refused(run(""), "undo", ILLEGAL);
            refused(run("pass 1, undo"), "undo", ILLEGAL);
            refused(run("").then("text h;h"), "undo", ILLEGAL);
            refused(run("!pass 0, !restore 0"), "undo", ILLEGAL);
            refused(passes(9).then("undo, undo, undo, undo, undo"), "undo", ILLEGAL);
            is(passes(9).then("undo, undo, undo, undo, undo, pass 1"), "undo", 0);
        });
    }
}
