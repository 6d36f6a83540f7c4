import java.io.IOException;
import java.util.List;

/** Each sentence of the document that names a boundary has a test of its own, on both its sides. */
public final class BoundariesTest {
    /** How the sentences begin that name no boundary: after the section and a colon, or in any section. */
    private static final List<String> NO_BOUNDARY = List.of(
        "What it is: Parcels that are carried by travellers",
        "What it is: what later calls answer is free.",
        "The public face: ",
        "Not promised: ",
        "Terms: All numbers are whole.",
        "Terms: Money is told in coins.",
        "Errors: Ahead of the calls ");
    private static final List<String> NO_BOUNDARY_IN_A_PROMISE = List.of(
        "`int ", "Returns the value;", "Returns the number;", "Returns the coins;");

    public static void main(String[] args) throws IOException {
        Checks checks = new Checks();
        Document document = new Document();
        List<Boundaries> all = List.of(
            new PlaceBoundaries(checks, document), new HandoverBoundaries(checks, document),
            new WayBoundaries(checks, document), new TextBoundaries(checks, document),
            new TripBoundaries(checks, document), new WordBoundaries(checks, document),
            new KeepBoundaries(checks, document), new LookBoundaries(checks, document));
        for (Boundaries boundaries : all) {
            boundaries.hold();
        }
        for (String sentence : document.notHeld()) {
            checks.holds("no test holds \"" + sentence + "\"", namesNoBoundary(sentence));
        }
        checks.end();
    }

    private static boolean namesNoBoundary(String sentence) {
        if (NO_BOUNDARY.stream().anyMatch(sentence::startsWith)) {
            return true;
        }
        String[] parts = sentence.split(": ", 3);
        return sentence.startsWith("Promise ") && parts.length == 3
            && NO_BOUNDARY_IN_A_PROMISE.stream().anyMatch(parts[2]::startsWith);
    }
}
