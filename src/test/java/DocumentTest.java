import java.io.IOException;
import java.lang.reflect.Field;
import java.nio.charset.StandardCharsets;
import java.nio.file.Files;
import java.nio.file.Path;
import java.util.ArrayList;
import java.util.Arrays;
import java.util.List;
import java.util.Map;
import java.util.TreeMap;
import java.util.regex.MatchResult;
import java.util.regex.Matcher;
import java.util.regex.Pattern;

/**
 * What the document lists word by word: the face, the headings, the numbers of answers, the kinds and the
 * bodies of acts. All of it is read out of ../shared/DOC.md, so none of it can be copied wrongly here.
 */
public final class DocumentTest {
    private static final Check CHECK = new Check("DocumentTest");
    private static final Path DOCUMENT = Path.of("../shared/DOC.md");
    private static final Path SOURCE = Path.of("src/main/java/HatGoes.java");
    private static final int PROMISES = 35;

    public static void main(String[] args) throws IOException {
        String document = Files.readString(DOCUMENT, StandardCharsets.UTF_8);
        String source = Files.readString(SOURCE, StandardCharsets.UTF_8);
        List<String> face = face(document);
        declared(face, source);
        promises(face, document);
        headings(document, source);
        constants(document);
        Map<String, Integer> kinds = new TreeMap<>();
        int[] above = kinds(document, kinds);
        taken(above);
        Bodies bodies = new Bodies(document, kinds, above);
        acts(bodies, above.length);
        CHECK.end();
    }

    private static List<MatchResult> all(String pattern, String text) {
        return Pattern.compile(pattern).matcher(text).results().toList();
    }

    private static List<String> face(String document) {
        Matcher block = Pattern.compile("(?s)```java\n(.*?)```").matcher(document);
        CHECK.holds("the document has a face", block.find());
        List<String> face = new ArrayList<>();
        for (String line : block.group(1).split("\n")) {
            if (line.endsWith(";")) {
                face.add(line.trim());
            }
        }
        return face;
    }

    /** The source declares all of it, in that order, with the same names of what is given. */
    private static void declared(List<String> face, String source) {
        int place = source.indexOf("public final class HatGoes {");
        for (String line : face) {
            String due = line.contains("=") ? line : line.replace(");", ") {");
            int next = source.indexOf("    " + due + "\n", Math.max(place, 0));
            CHECK.holds("the source says, in the document's order: " + due, next > place);
            place = Math.max(place, next);
        }
    }

    private static void promises(List<String> face, String document) {
        List<MatchResult> heads = all("## Promise (\\d+): (.*)\n\n`([^`]*)`: ", document);
        CHECK.due("promises", heads.size(), PROMISES);
        for (int k = 0; k < heads.size(); k++) {
            CHECK.due("the number of promise " + k, Integer.parseInt(heads.get(k).group(1)), k + 1);
            String line = "public " + heads.get(k).group(3) + ";";
            CHECK.holds("the face has: " + line, face.contains(line));
            // Two lines of constants stand ahead of the calls.
            CHECK.due("where the face has: " + line, face.indexOf(line), k + 2);
        }
        CHECK.due("calls of the face", face.size(), PROMISES + 2);
    }

    private static void headings(String document, String source) {
        int place = 0;
        List<MatchResult> heads = all("Ahead of the calls (.*) the interface says: (---- .*)\\.\n", document);
        CHECK.due("headings", heads.size(), 6);
        for (int k = 0; k < heads.size(); k++) {
            int from = source.indexOf("    // " + heads.get(k).group(2) + "\n");
            int to = k + 1 < heads.size() ? source.indexOf("    // " + heads.get(k + 1).group(2) + "\n")
                : source.length();
            CHECK.holds("the source says: " + heads.get(k).group(2), from > place && to > from);
            for (MatchResult call : all("`(\\w+)`", heads.get(k).group(1))) {
                Matcher declared = Pattern.compile("\n    public \\w+ " + call.group(1) + "\\(").matcher(source);
                boolean behind = declared.find(Math.max(from, 0)) && declared.start() < to;
                CHECK.holds(call.group(1) + " stands behind: " + heads.get(k).group(2), behind);
            }
            place = from;
        }
    }

    private static void constants(String document) {
        List<MatchResult> told = all("(NONE|BAD|STATE|FULL) \\((-\\d)\\)", document);
        CHECK.due("constants that the document's words tell", told.size(), 4);
        for (MatchResult one : told) {
            CHECK.due(one.group(1), constant(one.group(1)), Integer.parseInt(one.group(2)));
        }
        CHECK.holds("the document tells NO", document.contains("`NO = Long.MIN_VALUE`"));
        CHECK.due("NO", constant("NO"), Long.MIN_VALUE);
    }

    private static long constant(String name) {
        try {
            Field field = HatGoes.class.getField(name);
            return field.getLong(null);
        } catch (ReflectiveOperationException missing) {
            CHECK.holds("there is a constant " + name, false);
            return 0;
        }
    }

    /** Which KIND stands above each, -1 above the first; their names go into kinds. */
    private static int[] kinds(String document, Map<String, Integer> kinds) {
        Matcher told = Pattern.compile("are of KINDS: (.*); with a number v").matcher(document);
        CHECK.holds("the document tells the KINDS", told.find());
        String words = told.group(1);
        for (MatchResult one : all("(\\d) ([A-Z]+)", words)) {
            kinds.put(one.group(2), Integer.parseInt(one.group(1)));
        }
        CHECK.due("KINDS", kinds.size(), 7);
        int[] above = new int[kinds.size()];
        Arrays.fill(above, -1);
        for (String group : words.split("; ")) {
            String[] sides = group.split(" under ");
            for (MatchResult one : all("(\\d) [A-Z]+", sides[0])) {
                above[Integer.parseInt(one.group(1))] = sides.length > 1 ? kinds.get(sides[1]) : -1;
            }
        }
        return above;
    }

    private static void taken(int[] above) {
        HatGoes x = new HatGoes();
        for (int kind = 0; kind < above.length; kind++) {
            CHECK.due("guest of KIND " + kind, x.guest(kind, 0, 0), kind);
            CHECK.due("of it its KIND", x.of(kind, 0), kind);
        }
        for (int kind = 0; kind < above.length; kind++) {
            for (int as = 0; as < above.length; as++) {
                boolean is = false;
                for (int k = kind; k >= 0; k = above[k]) {
                    is = is || k == as;
                }
                CHECK.due("taken(" + kind + ", " + as + ")", x.taken(kind, as), is ? kind : -12);
            }
        }
    }

    private static void acts(Bodies bodies, int kinds) {
        CHECK.due("BODIES", bodies.count(), 11);
        int[] xs = {0, 1, -1, 2, 7, 8, 100, -37, 65535, 1 << 30, Integer.MAX_VALUE, Integer.MIN_VALUE,
            Integer.MIN_VALUE + 1, 715827883, 0x55555555};
        for (int kind = 0; kind < kinds; kind++) {
            for (int v = 0; v <= 9; v++) {
                for (int seats = 1; seats <= 7; seats++) {
                    HatGoes x = new HatGoes();
                    for (int k = 0; k < seats; k++) {
                        x.guest(kind, v, 0);
                    }
                    for (int k = 0; k < xs.length; k++) {
                        acts(bodies, x, new int[] {kind, v, seats - 1}, xs[k]);
                    }
                }
            }
        }
    }

    /** All three ACTS of one GUEST: its KIND, its v, its number. */
    private static void acts(Bodies bodies, HatGoes asked, int[] guest, int x) {
        for (int act = 0; act < Bodies.ACTS.length; act++) {
            int due = bodies.run(guest, act, x);
            String call = "act(" + guest[2] + ", " + act + ", " + x + ") of KIND " + guest[0] + ", v " + guest[1];
            CHECK.due(call, asked.act(guest[2], act, x), due);
            CHECK.due("bodies of " + call, asked.count(5), bodies.trace.size());
            for (int k = 0; k < bodies.trace.size(); k++) {
                CHECK.due("body " + k + " of " + call, asked.trace(k), bodies.trace.get(k));
            }
            CHECK.due("behind the last body of " + call, asked.trace(bodies.trace.size()), -1);
        }
    }

    /** The BODIES as the document writes them, worked through sign by sign. */
    private static final class Bodies {
        static final String[] ACTS = {"speaks", "passes", "tells"};

        final List<Integer> trace = new ArrayList<>();
        private final int[] above;
        private final String[][] words;
        private final int[][] numbers;
        private int[] guest;

        Bodies(String document, Map<String, Integer> kinds, int[] above) {
            this.above = above;
            words = new String[above.length][ACTS.length];
            numbers = new int[above.length][ACTS.length];
            Matcher told = Pattern.compile("BODIES: (.*?) speaks\\(\\.\\.\\) and so on").matcher(document);
            CHECK.holds("the document tells the BODIES", told.find());
            int kind = 0;
            for (MatchResult one : all("(?:([A-Z]+): )?(\\d\\d) (\\w+): (.*?)\\.(?= \\d\\d | [A-Z]|$)", told.group(1))) {
                kind = one.group(1) == null ? kind : kinds.get(one.group(1));
                int act = List.of(ACTS).indexOf(one.group(3));
                words[kind][act] = one.group(4).replace(" ", "");
                numbers[kind][act] = Integer.parseInt(one.group(2));
            }
        }

        int count() {
            int count = 0;
            for (String[] row : words) {
                for (String body : row) {
                    count += body == null ? 0 : 1;
                }
            }
            return count;
        }

        int run(int[] of, int act, int x) {
            guest = of;
            trace.clear();
            return body(of[0], act, x);
        }

        /** The body of this KIND, or of the next one above that has one. */
        private int body(int kind, int act, int x) {
            int k = kind;
            while (words[k][act] == null) {
                k = above[k];
            }
            trace.add(numbers[k][act]);
            return new Reader(words[k][act], k, x).whole();
        }

        private final class Reader {
            private final String body;
            private final int kind;
            private final int x;
            private int place;

            Reader(String body, int kind, int x) {
                this.body = body;
                this.kind = kind;
                this.x = x;
            }

            int whole() {
                int value = eitherButNotBoth();
                CHECK.holds(body + " is read to its end", place == body.length());
                return value;
            }

            private boolean takes(String sign) {
                boolean is = body.startsWith(sign, place);
                place += is ? sign.length() : 0;
                return is;
            }

            private int eitherButNotBoth() {
                int value = sum();
                while (takes("^")) {
                    value ^= sum();
                }
                return value;
            }

            private int sum() {
                int value = product();
                while (true) {
                    if (takes("+")) {
                        value += product();
                    } else if (takes("-")) {
                        value -= product();
                    } else {
                        return value;
                    }
                }
            }

            private int product() {
                int value = part();
                while (takes("*")) {
                    value *= part();
                }
                return value;
            }

            private int part() {
                if (takes("-")) {
                    return -part();
                }
                boolean up = takes("super.");
                for (int act = 0; act < ACTS.length; act++) {
                    if (takes(ACTS[act] + "(")) {
                        int given = eitherButNotBoth();
                        CHECK.holds(body + " has a ) at " + place, takes(")"));
                        return body(up ? above[kind] : guest[0], act, given);
                    }
                }
                return takes("x") ? x : takes("v") ? guest[1] : takes("i") ? guest[2] : number();
            }

            private int number() {
                int from = place;
                while (place < body.length() && Character.isDigit(body.charAt(place))) {
                    place++;
                }
                CHECK.holds(body + " has a number at " + from, place > from);
                return Integer.parseInt(body.substring(from, place));
            }
        }
    }
}
