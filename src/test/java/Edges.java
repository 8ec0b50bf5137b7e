import java.io.IOException;
import java.nio.charset.StandardCharsets;
import java.nio.file.Files;
import java.nio.file.Path;
import java.util.List;
import java.util.function.Supplier;
import java.util.function.ToLongFunction;

/** Looks at what single sentences of the document say of boundary cases: each test first says its sentence. */
final class Edges {
    static final int NOTHING = -11, CAST = -12, PLACE = -13, SIZE = -14;

    private static final Path DOCUMENT = Path.of("../shared/DOC.md");

    private final Check check;
    private final String document;
    private String sentence = "";
    private int sentences;
    private int looks;

    Edges(String test) throws IOException {
        check = new Check(test);
        document = Files.readString(DOCUMENT, StandardCharsets.UTF_8).replaceAll("\\s+", " ");
    }

    /** What follows looks at this sentence; the document has to say it word by word. */
    void says(String words) {
        endSentence();
        sentence = words;
        sentences++;
        looks = 0;
        check.holds("the document says: " + words, document.contains(words.replaceAll("\\s+", " ")));
    }

    private void endSentence() {
        check.holds("something looks at: " + sentence, sentences == 0 || looks > 0);
    }

    void due(String call, long got, long want) {
        looks++;
        check.due("[" + sentence + "] " + call, got, want);
    }

    void holds(String what, boolean is) {
        looks++;
        check.holds("[" + sentence + "] " + what, is);
    }

    /** A call that answers so and changes nothing: its object then is as a twin that was not called. */
    void still(String call, Supplier<HatGoes> made, ToLongFunction<HatGoes> ask, long want) {
        HatGoes asked = made.get();
        HatGoes twin = made.get();
        due(call, ask.applyAsLong(asked), want);
        List<Long> is = Look.at(asked);
        List<Long> was = Look.at(twin);
        int unlike = 0;
        while (unlike < was.size() && is.get(unlike).equals(was.get(unlike))) {
            unlike++;
        }
        holds(call + " changed nothing, but answer " + unlike + " of a look at it is otherwise",
            unlike == was.size() && is.size() == was.size());
    }

    /** The same for an evening with something of all there is. */
    void refused(String call, ToLongFunction<HatGoes> ask, long want) {
        still(call, Edges::evening, ask, want);
    }

    /** A question about such an evening: asked again it has the same answer, and it changed nothing. */
    void asked(String call, ToLongFunction<HatGoes> ask) {
        HatGoes x = evening();
        long answer = ask.applyAsLong(x);
        due(call + " asked again", ask.applyAsLong(x), answer);
        refused(call, ask, answer);
    }

    void end() {
        endSentence();
        System.out.println(sentences + " sentences");
        check.end();
    }

    /** Numbers that are not low .. high: next to them and far off. */
    static int[] outside(int low, int high) {
        return new int[] {low - 1, high + 1, low - 256, high + 256, 1 << 16, 1 << 30, Integer.MIN_VALUE,
            Integer.MAX_VALUE};
    }

    /** Guests of these kinds round the table; v of each is its number. */
    static HatGoes round(int... kinds) {
        HatGoes x = new HatGoes();
        for (int k = 0; k < kinds.length; k++) {
            x.guest(kinds[k], k, 0);
        }
        return x;
    }

    /** As many guests of a kind. */
    static HatGoes alike(int kind, int seats) {
        HatGoes x = new HatGoes();
        for (int k = 0; k < seats; k++) {
            x.guest(kind, 0, 0);
        }
        return x;
    }

    static HatGoes feed(HatGoes x, String text) {
        for (int k = 0; k < text.length(); k++) {
            x.feed(text.charAt(k));
        }
        return x;
    }

    static int house(HatGoes x, String text) {
        return feed(x, text).house();
    }

    /** A new object's answer to a text: -10 less its fault, or 0. */
    static int house(String text) {
        return house(new HatGoes(), text);
    }

    /** An object that a house holds in. */
    static HatGoes housed(HatGoes x, String text) {
        house(x, text);
        return x;
    }

    static HatGoes says(HatGoes x, int sayings) {
        for (int k = 0; k < sayings; k++) {
            x.saying();
        }
        return x;
    }

    static HatGoes facts(HatGoes x, int bits) {
        for (int fact = 0; fact < 8; fact++) {
            x.fact(fact, (bits >> fact & 1) == 1);
        }
        return x;
    }

    static HatGoes row(HatGoes x, int guest, int bits) {
        for (int part = 0; part < 8; part++) {
            x.row(guest, part, bits >> part & 1);
        }
        return x;
    }

    /** Something of all there is, an image of how it was earlier, and room for one more of each. */
    static HatGoes evening() {
        HatGoes x = new HatGoes();
        x.guest(6, 3, 5);
        x.guest(2, 9, 255);
        x.guest(1, 0, 0);
        x.guest(3, 4, 1);
        x.guest(5, 6, 170);
        x.guest(6, 1, 2);
        x.fact(0, true);
        x.fact(3, true);
        x.row(0, 1, 1);
        x.row(0, 4, 1);
        x.row(5, 7, 1);
        house(x, "lies 2 g<3;worth 3 k>1;far 2");
        x.was(0);
        x.was(2);
        x.book(1);
        x.book(0);
        x.hat(3);
        x.image();
        x.row(0, 4, 0);
        x.row(5, 0, 1);
        x.fact(6, true);
        x.fact(0, false);
        x.hat(0);
        says(x, 3);
        house(x, "worth 6 h=4;far 3;lies 9 v>4");
        x.hat(2);
        x.was(-1);
        x.was(2);
        x.was(5);
        x.was(2);
        x.book(1);
        feed(x, "wor");
        tapes(x);
        x.act(0, 2, 7);
        return x;
    }

    private static void tapes(HatGoes x) {
        x.tape(0, 0, 4);
        x.item(0, 0, 7);
        x.item(0, 3, -7);
        x.tape(1, 4, 9);
        x.item(1, 0, 1);
        x.item(1, 8, 1);
        x.tape(2, 3, 2);
        x.item(2, 1, Long.MAX_VALUE);
        x.tape(3, 1, 3);
        x.item(3, 2, 300);
        x.tape(4, 2, 0);
    }
}
