import java.io.IOException;
import java.lang.reflect.Array;
import java.lang.reflect.Constructor;
import java.lang.reflect.Field;
import java.lang.reflect.Method;
import java.lang.reflect.Modifier;
import java.nio.file.Files;
import java.nio.file.Path;
import java.util.ArrayList;
import java.util.Collections;
import java.util.IdentityHashMap;
import java.util.List;
import java.util.Set;
import java.util.TreeSet;
import java.util.regex.Matcher;
import java.util.regex.Pattern;

/** The face of the class, the room that it takes, and what a look at the source can hold of LANGUAGE.md. */
public final class LanguageTest {
    private static final Path SOURCE = Path.of("src/main/java/RelayParcels.java");
    private static final Path DOCUMENT = Path.of("../shared/DOC.md");
    private static final Pattern FACE_TOLD = Pattern.compile("(?s)```java\n(.*?)```");
    private static final Pattern HEADING_TOLD =
        Pattern.compile("Ahead of the calls (.*) the interface says: (----.*)\\.");
    private static final Checks CHECKS = new Checks();

    private static final String[] FACE = {
        "append 1", "carryOut 0", "cheapest 2", "claim 1", "clearText 0", "count 1", "earliest 2", "fetch 2",
        "gave 3", "holderAt 2", "inLocker 1", "offer 6", "parcel 2", "pass 1", "person 2", "post 5", "putIn 2",
        "restore 1", "take 1", "takeBack 1", "took 3", "trip 2", "undo 0", "wouldClaim 2",
    };

    public static void main(String[] args) throws Exception {
        face();
        faceAsTold();
        headingsAsTold();
        nestedClasses();
        words();
        lengths();
        room();
        longUse();
        CHECKS.end();
    }

    private static void face() {
        Set<String> found = new TreeSet<>();
        for (Method method : RelayParcels.class.getDeclaredMethods()) {
            if (Modifier.isPrivate(method.getModifiers())) {
                continue;
            }
            found.add(method.getName() + " " + method.getParameterCount());
            CHECKS.holds("rule 1: public, not static: " + method, method.getModifiers() == Modifier.PUBLIC);
            CHECKS.holds("answers an int: " + method, method.getReturnType() == int.class);
        }
        CHECKS.holds("rule 1: the methods are " + found, found.equals(new TreeSet<>(List.of(FACE))));
        Set<String> constants = new TreeSet<>();
        for (Field field : RelayParcels.class.getDeclaredFields()) {
            if (!Modifier.isPrivate(field.getModifiers())) {
                constants.add(field.getName());
            }
        }
        Set<String> due = new TreeSet<>(List.of("INVALID_ARGUMENT", "ILLEGAL_STATE", "CAPACITY_EXCEEDED", "NONE"));
        CHECKS.holds("rule 1: the constants are " + constants, constants.equals(due));
        Constructor<?>[] constructors = RelayParcels.class.getDeclaredConstructors();
        CHECKS.due("rule 1: constructors", constructors.length, 1);
        CHECKS.due("rule 1: its parameters", constructors[0].getParameterCount(), 0);
        int modifiers = RelayParcels.class.getModifiers();
        CHECKS.holds("rule 1: public and final", modifiers == (Modifier.PUBLIC | Modifier.FINAL));
    }

    /** Each line of the face that the document tells stands in the source, in the document's order. */
    private static void faceAsTold() throws IOException {
        List<String> lines = Files.readAllLines(SOURCE).stream().map(String::strip).toList();
        Matcher face = FACE_TOLD.matcher(Files.readString(DOCUMENT));
        CHECKS.holds("the document tells the face", face.find());
        int before = -1;
        for (String told : face.group(1).lines().map(String::strip).toList()) {
            if (told.equals("}")) {
                continue;
            }
            int at = lines.indexOf(told.endsWith(");") ? told.replace(";", " {") : told);
            CHECKS.holds("rule 1: as the document tells it, in its order: " + told, at > before);
            before = at;
        }
    }

    /** Between a heading and the next one stand the calls that the document puts under it, and no other. */
    private static void headingsAsTold() throws IOException {
        String source = Files.readString(SOURCE);
        Matcher told = HEADING_TOLD.matcher(Files.readString(DOCUMENT));
        int headings = 0;
        while (told.find()) {
            headings++;
            int begin = source.indexOf("\n    // " + told.group(2) + "\n");
            int next = source.indexOf("\n    // ----", begin + 1);
            CHECKS.holds("the source says " + told.group(2), begin >= 0);
            String part = source.substring(Math.max(begin, 0), next < 0 ? source.length() : next);
            Matcher call = Pattern.compile("\n    public int (\\w+)\\(").matcher(part);
            StringBuilder calls = new StringBuilder();
            while (call.find()) {
                calls.append(calls.isEmpty() ? "`" : ", `").append(call.group(1)).append('`');
            }
            CHECKS.holds(told.group(2) + " stands ahead of " + calls, calls.toString().equals(told.group(1)));
        }
        CHECKS.due("headings", headings, 6);
    }

    private static void nestedClasses() {
        Set<String> names = new TreeSet<>();
        for (String method : FACE) {
            names.add(method.split(" ")[0]);
        }
        Class<?>[] nested = RelayParcels.class.getDeclaredClasses();
        CHECKS.holds("rule 11: classes", nested.length + 1 <= 12);
        fieldsAndParameters(RelayParcels.class);
        for (Class<?> one : nested) {
            CHECKS.holds("rule 2: static: " + one, Modifier.isStatic(one.getModifiers()));
            CHECKS.due("rule 2: nothing inside " + one, one.getDeclaredClasses().length, 0);
            fieldsAndParameters(one);
            for (Method method : one.getDeclaredMethods()) {
                CHECKS.holds("rule 1: a name of the face: " + method, !names.contains(method.getName()));
            }
        }
    }

    private static void fieldsAndParameters(Class<?> type) {
        int fields = 0;
        for (Field field : type.getDeclaredFields()) {
            if (Modifier.isStatic(field.getModifiers())) {
                CHECKS.holds("rule 5: final: " + field, Modifier.isFinal(field.getModifiers()));
            } else {
                fields++;
            }
        }
        CHECKS.holds("rule 11: fields of " + type, fields <= 20);
        for (Method method : type.getDeclaredMethods()) {
            CHECKS.holds("rule 11: parameters of " + method, method.getParameterCount() <= 7);
            CHECKS.holds("rule 2: made by javac: " + method, !method.isSynthetic());
        }
    }

    /** The source without comments, texts and single signs. */
    private static String bareSource() throws IOException {
        String source = Files.readString(SOURCE);
        source = source.replaceAll("(?s)/\\*.*?\\*/", "").replaceAll("//[^\n]*", "");
        return source.replaceAll("\"[^\"\n]*\"", "\"\"").replaceAll("'[^'\n]*'", "' '");
    }

    private static void words() throws IOException {
        String source = bareSource();
        String[] barred = {"\\bpackage\\b", "\\bimport\\b", "\\bthrow\\b", "\\btry\\b", "\\bcatch\\b", "\\bassert\\b",
            "\\bsynchronized\\b", "->", "::", "\\bprotected\\b", "\\bequals\\b", "\\bhashCode\\b", "\\btoString\\b",
            "\\bThread\\b", "\\bvar\\b", "\\bnative\\b", "\\bvolatile\\b", "\\btransient\\b", "\\bObject\\b",
            "\\w+Exact\\b", "\\bstatic\\s*\\{", "@"};
        for (String word : barred) {
            Matcher matcher = Pattern.compile(word).matcher(source);
            CHECKS.holds("not in the language: " + word, !matcher.find());
        }
        Matcher calls = Pattern.compile("\\b([A-Z]\\w*)\\.(\\w+)\\(").matcher(source);
        Set<String> library = Set.of("Math.min", "System.arraycopy");
        while (calls.find()) {
            String call = calls.group(1) + "." + calls.group(2);
            CHECKS.holds("rule 4: " + call, library.contains(call));
        }
        CHECKS.holds("rule 4: the signs", source.chars().allMatch(sign -> sign < 128));
    }

    private static void lengths() throws IOException {
        List<String> lines = Files.readAllLines(SOURCE);
        int begin = 0;
        for (int i = 0; i < lines.size(); i++) {
            String line = lines.get(i);
            if (line.matches("\\s+[\\w\\[\\] ]+\\(.*\\) \\{") && !line.matches("\\s+(if|for|while|switch|else)\\b.*")) {
                begin = i;
            }
            if (line.matches(" {4}( {4})?\\}") && i - begin >= 60) {
                CHECKS.holds("rule 11: the method at line " + (begin + 1) + " is short", false);
            }
        }
        CHECKS.holds("there are methods", begin > 0);
    }

    /** Everything that one object ever makes stays in it: rows are made once and used again. */
    private static void room() throws IllegalAccessException {
        RelayParcels x = new RelayParcels();
        int[] atFirst = roomOf(x);
        CHECKS.holds("rule 12: a new object's objects: " + atFirst[0], atFirst[0] <= 60);
        CHECKS.holds("rule 12: a new object's elements: " + atFirst[1], atFirst[1] <= 1200);
        for (int i = 0; i < 10; i++) {
            x.take(i % 2);
        }
        int[] full = roomOf(x);
        CHECKS.holds("rule 12: objects: " + full[0], full[0] <= 800);
        CHECKS.holds("rule 12: elements: " + full[1], full[1] <= 16000);
        for (int i = 0; i < 480; i++) {
            x.take(i % 2);
            x.undo();
            x.restore(i % 2);
            x.post(i % 8, (i + 1) % 8, 3, 5, 0);
            x.putIn(i % 8, i % 10);
            x.earliest(i % 10, 0);
        }
        int[] atLast = roomOf(x);
        CHECKS.due("rule 12: objects at last", atLast[0], full[0]);
        CHECKS.due("rule 12: elements at last", atLast[1], full[1]);
    }

    /** What is answered after 512 calls is free, but no call throws. */
    private static void longUse() {
        RelayParcels x = new RelayParcels();
        x.post(0, 1, 0, 5, 0);
        for (int i = 0; i < 3000; i++) {
            CHECKS.due("rule 7: put in", x.putIn(0, 0), 1);
            CHECKS.due("rule 7: fetched", x.fetch(6 * (i % 2), 0), 0);
            if (i % 2 == 1) {
                x.gave(6, 0, 0);
                x.took(0, 0, 6);
            }
            x.take(i % 2);
            x.append('h');
            x.carryOut();
        }
    }

    /** The objects and arrays that hang on it, and their fields and elements. */
    private static int[] roomOf(Object root) throws IllegalAccessException {
        Set<Object> seen = Collections.newSetFromMap(new IdentityHashMap<>());
        List<Object> open = new ArrayList<>();
        seen.add(root);
        open.add(root);
        int parts = 0;
        for (int next = 0; next < open.size(); next++) {
            for (Object part : partsOf(open.get(next))) {
                parts++;
                if (part != null && !(part instanceof Number) && !(part instanceof Boolean)
                        && !(part instanceof Character) && seen.add(part)) {
                    open.add(part);
                }
            }
        }
        return new int[] {seen.size(), parts};
    }

    private static List<Object> partsOf(Object whole) throws IllegalAccessException {
        List<Object> parts = new ArrayList<>();
        if (whole.getClass().isArray()) {
            for (int i = 0; i < Array.getLength(whole); i++) {
                parts.add(Array.get(whole, i));
            }
            return parts;
        }
        for (Field field : whole.getClass().getDeclaredFields()) {
            if (!Modifier.isStatic(field.getModifiers())) {
                field.setAccessible(true);
                parts.add(field.get(whole));
            }
        }
        return parts;
    }
}
