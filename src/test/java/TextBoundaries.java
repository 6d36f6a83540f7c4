/** What the document says of the text: in its terms, and in the promises 14 to 16. */
final class TextBoundaries extends Boundaries {
    private static final int ROOM = 80;
    private static final String LETTERS = "gtpfh";
    private static final String DIGITS = "0123456789";

    /** What a text may begin with, and the characters that are allowed next. */
    private static final String[][] NEXT = {
        {"", LETTERS}, {"g", DIGITS}, {"g0", DIGITS}, {"g00", DIGITS}, {"g006", ";"}, {"g006;", LETTERS},
        {"t", DIGITS}, {"t6", DIGITS}, {"t60", DIGITS}, {"t600", ";"}, {"t999;", LETTERS},
        {"p", DIGITS}, {"p0", DIGITS}, {"p00", ";"}, {"p00;", LETTERS},
        {"f", DIGITS}, {"f9", DIGITS}, {"f99", ";"}, {"f00;", LETTERS},
        {"h", ";"}, {"h;", LETTERS}, {"h;g", DIGITS}, {"p00;t12", DIGITS}, {"g123;f45", ";"},
    };

    TextBoundaries(Checks checks, Document document) {
        super(checks, document);
    }

    @Override
    void hold() {
        room();
        ordersAndSeparators();
        grammar();
        faults();
        append();
        clearText();
        carryOut();
        carryOutStops();
        oneAction();
        carriedOutNumber();
    }

    private static Run text(String text) {
        return run("").then("text " + text);
    }

    private void answers(String text, int want) {
        is(text(text), "carryOut", want);
    }

    private static String hours(int number) {
        return "h" + ";h".repeat(number - 1);
    }

    private void room() {
        section("Text");
        sentence("There is a text of at most 80 characters", () -> {
            for (int length = 1; length <= ROOM; length++) {
                is(text("x".repeat(length)), "count 15", length);
            }
            is(text("x".repeat(ROOM - 1)), "append 104", ROOM);
            refused(text("x".repeat(ROOM)), "append 104", FULL);
            refused(text(hours(40) + ";"), "append 104", FULL);
            is(text("x".repeat(ROOM)).then("clearText"), "append 104", 1);
            is(text("g006;" + hours(38)).then("carryOut"), "append 104", 1);
            is(text("x".repeat(ROOM)).then("clearText, text " + "h".repeat(ROOM - 1)), "append 104", ROOM);
        });
        sentence("empty at first", () -> {
            is(run(""), "count 15", 0);
            is(run(""), "clearText", 0);
            is(run(""), "carryOut", -1000);
        });
    }

    private void ordersAndSeparators() {
        sentence("A text of orders is one or more orders with \";\" between two", () -> {
            answers("", -1000);
            answers("h", 1);
            answers("h;h", 2);
            answers(hours(40), 40);
            answers("g006;" + hours(38), 0);
            answers(";", -1000);
            answers(";h", -1000);
            answers("h;", -1002);
            answers("h;;h", -1002);
            answers("hh", -1001);
            answers("h,h", -1001);
            answers("h h", -1001);
            answers(hours(40) + ";", -1080);
            is(run("post 0 3 3 9 0").then("text g006;t600;p60;f60"), "carryOut", 4);
        });
    }

    private void grammar() {
        sentence("each of these numbers being one digit, or \"h\" (an hour passes)", () -> {
            for (String[] one : NEXT) {
                Run begun = text(one[0]);
                for (char sign = 1; sign <= 255; sign++) {
                    int answer = begun.then("append " + (int) sign).answer("carryOut");
                    boolean isFault = answer == -1000 - one[0].length();
                    due(one[0] + " and " + (int) sign + ": " + answer, isFault ? 1 : 0, one[1].indexOf(sign) < 0 ? 1 : 0);
                }
            }
        });
        sentence("An order is \"g\" holder parcel other (gave), \"t\" person parcel holder (took)", () -> {
            Run posted = run("post 1 3 3 9 0, post 0 3 3 9 0");
            same(posted.then("text g016, carryOut, undo"), posted);
            sameWorld(posted.then("text g016, carryOut"), posted.then("gave 0 1 6"));
            sameWorld(posted.then("text t610, carryOut"), posted.then("took 6 1 0"));
            sameWorld(posted.then("text t610;g016, carryOut"), posted.then("took 6 1 0, gave 0 1 6"));
            is(posted.then("text g106"), "carryOut", 0);
            is(posted.then("text t010"), "carryOut", 0);
            is(posted.then("text g610"), "carryOut", 0);
            is(posted.then("text t016"), "carryOut", 0);
        });
        sentence("\"p\" person parcel (put into the locker), \"f\" person parcel (fetch)", () -> {
            Run posted = run("post 1 3 3 9 0, post 0 3 3 9 0");
            sameWorld(posted.then("text p01, carryOut"), posted.then("putIn 0 1"));
            sameWorld(posted.then("text p01;f61, carryOut"), posted.then("putIn 0 1, fetch 6 1"));
            is(posted.then("text p00"), "carryOut", 0);
            is(posted.then("putIn 0 1").then("text f60"), "carryOut", 0);
            is(run("post 7 3 3 9 0").then("text p70;f10"), "carryOut", 2);
            is(PlaceBoundaries.parcels(10).then("text p39;f39"), "carryOut", 2);
        });
    }

    private void faults() {
        sentence("The fault of the text is the index, from 0, of the first character that is not allowed at its place", () -> {
            answers("x", -1000);
            answers("G006", -1000);
            answers("hx", -1001);
            answers("hxx", -1001);
            answers("g0x6;x", -1002);
            answers("g0066", -1004);
            answers("p006", -1003);
            answers("p0;h", -1002);
            answers("g006;x", -1005);
            answers("x".repeat(ROOM), -1000);
            answers(hours(39) + "x", -1077);
            answers(hours(39) + ";x", -1078);
            answers(hours(40) + "x", -1079);
            answers("g006;" + hours(37) + ";;", -1079);
            answers("g006;" + hours(37) + ";x", -1079);
        });
        sentence("or the length of the text if it ends too early (as the empty text does)", () -> {
            for (String[] one : NEXT) {
                if (!one[1].equals(";")) {
                    answers(one[0], -1000 - one[0].length());
                }
            }
            answers(hours(40) + ";", -1080);
            answers(hours(39) + ";g", -1079);
            answers(hours(38) + ";g00", -1079);
            answers("g006;" + hours(36) + ";g00", -1080);
            answers("g006;" + hours(37) + ";p", -1080);
            answers(hours(38) + ";g006", 38);
        });
    }

    private void append() {
        section("Promise 14: append");
        sentence("`character`: character code, 1 to 255", () -> {
            for (int code = 1; code <= 255; code++) {
                is(run(""), "append " + code, 1);
            }
            range(run(""), "append #", 1, 255);
            range(text("h;h"), "append #", 1, 255);
        });
        sentence("Returns the new length of the text", () -> {
            for (int length = 1; length <= ROOM; length++) {
                is(text("h".repeat(length - 1)), "append 59", length);
            }
            is(text("h;h").then("clearText"), "append 104", 1);
            is(text("h;h").then("carryOut"), "append 104", 1);
            is(text("h;;").then("!carryOut"), "append 104", 4);
        });
        sentence("INVALID_ARGUMENT if character is out of range", () -> {
            refused(text("h;h"), "append 0", INVALID);
            refused(text("h;h"), "append 256", INVALID);
            refused(text("h;h"), "append 360", INVALID);
            refused(text("h;h"), "append 65640", INVALID);
            refused(text("h".repeat(ROOM)), "append 0", INVALID);
            refused(text("h".repeat(ROOM)), "append 256", INVALID);
        });
        sentence("CAPACITY_EXCEEDED if the text already has 80 characters", () -> {
            is(text("h".repeat(ROOM - 1)), "append 1", ROOM);
            refused(text("h".repeat(ROOM)), "append 1", FULL);
            refused(text("h".repeat(ROOM)), "append 255", FULL);
        });
    }

    private void clearText() {
        section("Promise 15: clearText");
        sentence("Makes the text empty", () -> {
            same(run("clearText"), run(""));
            same(text("h").then("clearText"), run(""));
            same(text("x".repeat(ROOM)).then("clearText"), run(""));
            is(text("x").then("clearText"), "count 15", 0);
            is(text("x").then("clearText, clearText, append 104"), "carryOut", 1);
        });
        sentence("Returns the previous length of the text", () -> {
            is(run(""), "clearText", 0);
            is(text("h"), "clearText", 1);
            is(text("h".repeat(ROOM - 1)), "clearText", ROOM - 1);
            is(text("h".repeat(ROOM)), "clearText", ROOM);
            is(text("h".repeat(ROOM)).then("!append 104"), "clearText", ROOM);
            is(text("h").then("clearText"), "clearText", 0);
            is(text("h").then("carryOut"), "clearText", 0);
            is(text("h;").then("!carryOut"), "clearText", 2);
        });
    }

    private void carryOut() {
        section("Promise 16: carryOut");
        sentence("and makes the text empty", () -> {
            is(text("h").then("carryOut"), "count 15", 0);
            is(text("g006").then("carryOut"), "count 15", 0);
            is(text("g006;" + hours(38)).then("carryOut"), "count 15", 0);
            is(text("h").then("carryOut"), "carryOut", -1000);
            is(text("h;").then("!carryOut"), "count 15", 2);
            is(text("h;").then("!carryOut, append 104"), "carryOut", 2);
        });
        sentence("-1000 minus the fault of the text if it has one (which is an error)", () -> {
            refused(run(""), "carryOut", -1000);
            refused(run("pass 1, take 0, pass 2").then("text x"), "carryOut", -1000);
            refused(run("pass 1, take 0, pass 2").then("text h;h;"), "carryOut", -1004);
            refused(run("pass 1, take 0, pass 2").then("text h;hx"), "carryOut", -1003);
            refused(text(hours(40) + "x"), "carryOut", -1079);
            refused(text(hours(40) + ";"), "carryOut", -1080);
        });
    }

    private void carryOutStops() {
        sentence("Carries out the orders of the text, one after another, up to the first one that returns an error code", () -> {
            Run full = run("").times(3, "post 0 3 3 9 0").then("putIn 0 0, putIn 0 1, putIn 0 2").times(3, "post 0 3 3 9 0");
            stops(full, "p03", 0);
            stops(full, "f00", 0);
            stops(full, "g803", 0);
            stops(full, "g063", 0);
            stops(full, "g036;p03", 1);
            stops(full, "g038", 0);
            stops(full, "t833", 0);
            stops(full, "t733", 0);
            stops(full, "t630;p03", 1);
            stops(full, "p93", 0);
            stops(full, "p06", 0);
            stops(full, "f80", 0);
            stops(full, "f06", 0);
            stops(full, "f60;f61;f62;g036", 3);
            stops(full, "f60;f60", 1);
            is(run("hours 499").then("text h"), "carryOut", 1);
            is(run("hours 499").then("text h;h"), "carryOut", 1);
            is(run("hours 499").then("text h;h;g006"), "carryOut", 1);
            is(run("hours 500").then("text h"), "carryOut", 0);
            is(run("hours 499").then("text h;h, carryOut"), "count 0", 500);
        });
    }

    /** The orders after the carried out ones would be possible, but aren't looked at. */
    private void stops(Run run, String orders, int carriedOut) {
        is(run.then("text " + orders + ";h;h"), "carryOut", carriedOut);
        is(run.then("text " + orders + ";h;h, carryOut"), "count 0", 0);
        is(run.then("text h;" + orders + ";h"), "carryOut", carriedOut + 1);
        is(run.then("text h;" + orders + ";h, carryOut"), "count 0", 1);
        is(run.then("text h;h;" + orders), "carryOut", carriedOut + 2);
        is(run.then("text h;h;" + orders + ", carryOut"), "count 0", 2);
        if (carriedOut == 0) {
            sameWorld(run.then("text " + orders + ";h;h, carryOut"), run);
            sameWorld(run.then("text h;" + orders + ";h, carryOut"), run.then("pass 1"));
        }
    }

    private void oneAction() {
        sentence("If the text has no fault, this is one action, also if no order is carried out", () -> {
            action(text("h"), "carryOut");
            action(text(hours(40)), "carryOut");
            action(text("g006"), "carryOut");
            is(text("g006").then("carryOut"), "count 14", 1);
            is(text(hours(40)).then("carryOut"), "count 14", 1);
            is(text(hours(40)).then("carryOut, undo"), "count 0", 0);
            is(text("h;h;g006;h").then("carryOut, undo"), "count 0", 0);
            Run five = run("").times(5, "pass 1");
            is(five.then("text p00, carryOut"), "count 14", 5);
            is(five.then("text p00, carryOut, undo, undo, undo, undo, undo"), "count 0", 1);
            is(five.then("text h;, !carryOut, undo, undo, undo, undo, undo"), "count 0", 0);
            is(five.then("text h;h, carryOut, undo"), "count 0", 5);
            is(five.then("text h;h, carryOut, undo"), "count 15", 0);
        });
    }

    private void carriedOutNumber() {
        sentence("Returns the number of orders that are carried out", () -> {
            answers("g006", 0);
            answers("h", 1);
            answers("h;h", 2);
            answers(hours(39), 39);
            answers(hours(40), 40);
            answers(hours(39) + ";p", -1079);
            is(run("offer 0 0 1 1 1 0, offer 1 1 0 1 1 0").then("text h;h;h"), "carryOut", 3);
            is(run("post 0 3 3 9 0").then("text g006;g006;t600"), "carryOut", 3);
        });
    }
}
