/** Tests of the boundaries that the document names: each one tells its section and the words that it holds. */
abstract class Boundaries {
    static final int INVALID = -1;
    static final int ILLEGAL = -2;
    static final int FULL = -3;
    static final int NONE = -9;

    private final Checks checks;
    private final Document document;
    private String section = "";
    private String words = "";
    private int made;

    Boundaries(Checks checks, Document document) {
        this.checks = checks;
        this.document = document;
    }

    abstract void hold();

    static Run run(String calls) {
        return Run.of(calls);
    }

    void section(String heading) {
        section = heading;
    }

    /** A test of its own for these words of the section. */
    void sentence(String wordsOfIt, Runnable test) {
        words = wordsOfIt;
        checks.holds(place() + "stands in the document, once", document.hold(section, words));
        made = 0;
        try {
            test.run();
        } catch (RuntimeException e) {
            checks.holds(place() + e, false);
        }
        checks.holds(place() + "is tested", made > 0);
    }

    private String place() {
        return section + " \"" + words + "\": ";
    }

    void due(String what, long got, long want) {
        made++;
        checks.due(place() + what, got, want);
    }

    void is(Run run, String call, int want) {
        due("after " + run + ": " + call, run.answer(call), want);
    }

    /** The answers to the same question with one thing and another in the place of "#". */
    void are(Run run, String call, int first, int... wants) {
        for (int i = 0; i < wants.length; i++) {
            is(run, call.replace("#", String.valueOf(first + i)), wants[i]);
        }
    }

    /** The call is refused with this code and changes nothing. */
    void refused(Run run, String call, int code) {
        is(run, call, code);
        same(run.then("!" + call), run);
    }

    /** A call that is allowed: its answer is no error. */
    void allowed(Run run, String call) {
        int answer = run.answer(call);
        due("after " + run + ": " + call + " is allowed (" + answer + ")", answer >= 0 || answer == NONE ? 1 : 0, 1);
    }

    /** Both tell the same, with the history, the snapshots and the text. */
    void same(Run one, Run other) {
        due(one + " tells the same as " + other, one.told().equals(other.told()) ? 1 : 0, 1);
    }

    /** Both worlds tell the same. */
    void sameWorld(Run one, Run other) {
        due(one + " has the world of " + other, one.toldOfTheWorld().equals(other.toldOfTheWorld()) ? 1 : 0, 1);
    }

    void differ(Run one, Run other) {
        due(one + " tells otherwise than " + other, one.told().equals(other.told()) ? 1 : 0, 0);
    }

    /** In the place of "#" the call allows the numbers from low to high and no other. */
    void range(Run run, String call, int low, int high) {
        for (int number = low; number <= high; number++) {
            if (number - low < 20 || high - number < 20) {
                allowed(run, call.replace("#", String.valueOf(number)));
            }
        }
        int lowest = Integer.MIN_VALUE;
        int highest = Integer.MAX_VALUE;
        for (int wrong : new int[] {low - 1, high + 1, lowest, lowest + 1, highest - 1, highest}) {
            refused(run, call.replace("#", String.valueOf(wrong)), INVALID);
        }
    }

    /** The same, but one number at an end of the range is another argument of the call and refused for this. */
    void range(Run run, String call, int low, int high, int other) {
        range(run, call, low, high);
        refused(run, call.replace("#", String.valueOf(other)), INVALID);
        refused(run, call.replace("#", String.valueOf(other < low ? other - 1 : other + 1)), INVALID);
    }

    /** The call is an action: it records the state before it, which undo brings back, but for the text. */
    void action(Run run, String call) {
        int states = run.answer("count 14");
        is(run.then(call), "count 14", Math.min(states + 1, 5));
        sameWorld(run.then(call + ", undo"), run);
        if (states < 5) {
            same(run.then(call + ", undo"), call.equals("carryOut") ? run.then("clearText") : run);
        }
    }
}
