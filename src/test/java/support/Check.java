import java.io.IOException;
import java.nio.file.Files;
import java.nio.file.Path;

/** Counts the answers that are not as due, and knows the short ways to a workshop in a state. */
final class Check {
    interface Call {
        void run();
    }

    private static final Path DOCUMENT = Path.of("../shared/DOC.md");

    private int done = 0;
    private int wrong = 0;
    private int sentences = 0;
    private String heading = "";
    private int doneBefore = 0;

    /** What is checked from here on keeps this sentence of the document. */
    void sentence(int promise, String words) {
        endSentence();
        sentences++;
        heading = "promise " + promise + " '" + words + "': ";
        // a sentence that no longer stands there would be tested for nothing
        due("stands in the document", document().contains(words), true);
        doneBefore = done;
    }

    private void endSentence() {
        if (sentences > 0 && done == doneBefore) {
            fail("nothing was checked");
        }
    }

    private static String document() {
        try {
            return Files.readString(DOCUMENT);
        } catch (IOException e) {
            throw new IllegalStateException("the document is not at " + DOCUMENT, e);
        }
    }

    private void fail(String words) {
        wrong++;
        System.out.println(heading + words);
    }

    void due(String what, long got, long want) {
        done++;
        if (got != want) {
            fail(what + " answered " + got + ", due is " + want);
        }
    }

    void due(String what, String got, String want) {
        done++;
        if (!got.equals(want)) {
            fail(what + " answered " + got + ", due is " + want);
        }
    }

    void due(String what, boolean got, boolean want) {
        due(what, got ? 1 : 0, want ? 1 : 0);
    }

    /** The class must be the very one: the machine's own exceptions are classes below it. */
    void dueThrow(String what, Class<? extends RuntimeException> want, Call call) {
        done++;
        Class<?> got = null;
        try {
            call.run();
        } catch (RuntimeException e) {
            got = e.getClass();
        }
        if (got != want) {
            fail(what + " threw " + got + ", due is " + want);
        }
    }

    void noIndex(String what, Call call) {
        dueThrow(what, IndexOutOfBoundsException.class, call);
    }

    void noState(String what, Call call) {
        dueThrow(what, IllegalStateException.class, call);
    }

    void noArgument(String what, Call call) {
        dueThrow(what, IllegalArgumentException.class, call);
    }

    void unsupported(String what, Call call) {
        dueThrow(what, UnsupportedOperationException.class, call);
    }

    /** A place has just these cards, the lowest first. */
    void row(String what, CardWorkshop x, int place, int... cards) {
        due(what + ": size of place " + place, x.card(place, -1), cards.length);
        for (int i = 0; i < cards.length; i++) {
            due(what + ": card " + i + " of place " + place, x.card(place, i), cards[i]);
        }
        due(what + ": behind the last card of place " + place, x.card(place, cards.length), -1);
    }

    /** The moves are just these pairs of a rule and a card. */
    void moves(String what, CardWorkshop x, int... pairs) {
        int count = pairs.length / 2;
        due(what + ": moves", x.moves(), count);
        for (int i = 0; i < count && i < x.moves(); i++) {
            due(what + ": rule of move " + i, x.move(i, false), pairs[2 * i]);
            due(what + ": card of move " + i, x.move(i, true), pairs[2 * i + 1]);
        }
        noIndex(what + ": move behind the last", () -> x.move(count, false));
        noIndex(what + ": card behind the last", () -> x.move(count, true));
        noIndex(what + ": move -1", () -> x.move(-1, false));
    }

    /** The code is just these pairs of an instruction and its argument. */
    void code(String what, CardWorkshop x, int... pairs) {
        int count = pairs.length / 2;
        due(what + ": instructions", x.look(1), count);
        for (int k = 0; k < count && k < x.look(1); k++) {
            due(what + ": instruction " + k, x.code(k, false), pairs[2 * k]);
            due(what + ": argument " + k, x.code(k, true), pairs[2 * k + 1]);
        }
        noIndex(what + ": behind the last instruction", () -> x.code(count, false));
        noIndex(what + ": behind the last argument", () -> x.code(count, true));
        noIndex(what + ": instruction -1", () -> x.code(-1, false));
    }

    /** A text is a game with just as many instructions. */
    void game(String text, int instructions) {
        CardWorkshop x = new CardWorkshop();
        due("typed: " + text, write(x, text), true);
        due("a game: " + text, told(x::compile), "" + instructions);
    }

    void game(String text) {
        CardWorkshop x = new CardWorkshop();
        due("typed: " + text, write(x, text), true);
        due("a game: " + text, told(x::compile), "" + x.look(1));
    }

    void noGame(String text) {
        CardWorkshop x = new CardWorkshop();
        due("typed: " + text, write(x, text), true);
        due("no game: " + text, told(x::compile), "throws.IllegalArgumentException");
        due("the text stays: " + text, x.look(0), text.length());
    }

    void end() {
        endSentence();
        if (sentences > 0) {
            System.out.println(sentences + " sentences of the document");
        }
        System.out.println(wrong == 0 ? done + " answers, all as due" : wrong + " of " + done + " answers are not as due");
        if (wrong != 0) {
            System.exit(1);
        }
    }

    interface Answer {
        Object get();
    }

    /** What a call answers, or throws, as a text. */
    static String told(Answer call) {
        try {
            return "" + call.get();
        } catch (RuntimeException e) {
            return "throws." + e.getClass().getSimpleName();
        }
    }

    static long pack(String part) {
        long packed = 0;
        for (int i = 0; i < part.length(); i++) {
            packed = packed << 8 | part.charAt(i) & 255;
        }
        return packed;
    }

    static boolean write(CardWorkshop x, String text) {
        boolean all = true;
        for (int i = 0; i < text.length(); i += 8) {
            all &= x.type(pack(text.substring(i, Math.min(text.length(), i + 8))));
        }
        return all;
    }

    static CardWorkshop written(String text) {
        CardWorkshop x = new CardWorkshop();
        write(x, text);
        return x;
    }

    static CardWorkshop compiled(String text) {
        CardWorkshop x = written(text);
        x.compile();
        return x;
    }

    /** All cards lie in the stock, in an order that hangs on the seed 0. */
    static CardWorkshop dealt(String text) {
        CardWorkshop x = compiled(text);
        x.deal(0, 0);
        return x;
    }

    static void put(CardWorkshop x, int place, int... cards) {
        for (int card : cards) {
            x.put(card, place);
        }
    }
}
