import java.util.ArrayList;
import java.util.Arrays;
import java.util.LinkedHashMap;
import java.util.List;
import java.util.Map;

/**
 * 'What throws or is refused changes nothing', and what only asks does neither: of two workshops in
 * the same state one hears the call, and then both must tell the same, now and behind further calls.
 */
public final class RefusedCallsTest {
    private static final Check check = new Check();
    private static final String GAME = "D13;M1:c>t,+rc+1,n,w=w+1;P#s:s>h;E#h+#g=0;";
    private static final String NEXT_GAME = "D12;P1:n;E0;";

    interface State {
        void on(CardWorkshop x);
    }

    interface Call {
        Object on(CardWorkshop x);
    }

    private static final Map<String, State> STATES = new LinkedHashMap<>();
    private static final Map<String, Call> DOING = new LinkedHashMap<>();
    private static final Map<String, Call> ASKING = new LinkedHashMap<>();

    public static void main(String[] args) {
        states();
        doing();
        asking();
        refusedByPromise();
        askedByPromise();
        check.end();
    }

    private static void states() {
        STATES.put("new", x -> { });
        STATES.put("a text that is no game", x -> Check.write(x, "D11;P1:n;E0"));
        STATES.put("a text of 239", x -> Check.write(x, "D11;E" + "111+".repeat(58) + "1;"));
        STATES.put("a text of 240", x -> Check.write(x, "D11;E" + "111+".repeat(58) + "11;"));
        STATES.put("a text that is too long a game", x -> Check.write(x, "D11;P1:n;E1" + "+1".repeat(99) + ";"));
        STATES.put("a game", x -> compile(x, GAME));
        STATES.put("a game and a text that is none", x -> {
            compile(x, GAME);
            Check.write(x, "D22;P1:n;P1:n;E0");
        });
        STATES.put("a game without rules, dealt", x -> {
            compile(x, "D46;E0;");
            x.deal(3, 2);
        });
        STATES.put("dealt", x -> dealt(x, ""));
        STATES.put("dealt, and another game in the text", x -> dealt(x, NEXT_GAME));
        STATES.put("dealt, and a text that is too long a game", x -> dealt(x, "D11;E1" + "+1".repeat(99) + ";"));
        STATES.put("played", x -> played(x, ""));
        STATES.put("played, and no game in the text", x -> played(x, "D22;P1:n;P1:n;E0"));
        STATES.put("solved", x -> {
            played(x, "");
            x.solve(2000);
        });
        STATES.put("over", x -> {
            dealt(x, "");
            Check.put(x, 3, 0, 1, 2);
            x.solve(1);
        });
        STATES.put("60 moves made", x -> {
            compile(x, "D12;P1:w=w+1,n;E0;");
            x.deal(3, 0);
            for (int k = 0; k < 60; k++) {
                x.act(0);
            }
        });
    }

    private static void compile(CardWorkshop x, String text) {
        Check.write(x, text);
        x.compile();
    }

    private static void dealt(CardWorkshop x, String text) {
        compile(x, GAME);
        x.deal(5, 1);
        Check.write(x, text);
    }

    private static void played(CardWorkshop x, String text) {
        dealt(x, text);
        x.put(0, 1);
        x.act(0);
        x.put(1, 5);
        x.put(2, 2);
        x.act(0);
        x.put(1, 0);
    }

    private static void doing() {
        DOING.put("2 type(wrong byte)", x -> x.type(0x3131313131313120L));
        DOING.put("2 type(wrong byte first)", x -> x.type(0x8031313131313131L));
        DOING.put("2 type(one)", x -> x.type('1'));
        DOING.put("2 type(two)", x -> x.type(0x3131L));
        DOING.put("2 type(eight)", x -> x.type(0x3131313131313131L));
        DOING.put("4 compile()", x -> x.compile());
        DOING.put("6 deal(8, -1)", x -> x.deal(8, -1));
        DOING.put("6 deal(8, least)", x -> x.deal(8, Integer.MIN_VALUE));
        DOING.put("6 deal(8, 1)", x -> x.deal(8, 1));
        for (int card : new int[] {-1, 0, 2, 3, 24, Integer.MAX_VALUE}) {
            for (int place : new int[] {-1, 0, 5, 6, Integer.MIN_VALUE}) {
                DOING.put("7 put(" + card + ", " + place + ")", x -> x.put(card, place));
            }
        }
        for (int i : new int[] {-1, 0, 1, 2, 7, Integer.MIN_VALUE, Integer.MAX_VALUE}) {
            DOING.put("10 act(" + i + ")", x -> x.act(i));
        }
        DOING.put("11 undo()", x -> x.undo());
        for (int budget : new int[] {Integer.MIN_VALUE, 0, 1, 2, 3, 5, 2001}) {
            DOING.put("16 solve(" + budget + ")", x -> x.solve(budget));
        }
    }

    private static void asking() {
        for (int k : new int[] {Integer.MIN_VALUE, -2, -1, 0, 1, 5, 6, 8, 160, Integer.MAX_VALUE}) {
            ASKING.put("5 code(" + k + ")", x -> x.code(k, k % 2 == 0));
            ASKING.put("9 move(" + k + ")", x -> x.move(k, k % 2 == 0));
            ASKING.put("12 card(" + k + ", 0)", x -> x.card(k, 0));
            ASKING.put("12 card(2, " + k + ")", x -> x.card(2, k));
            ASKING.put("13 seen(" + k + ", 0, 0)", x -> x.seen(k, 0, 0));
            ASKING.put("13 seen(1, " + k + ", -1)", x -> x.seen(1, k, -1));
            ASKING.put("14 counter(" + k + ")", x -> x.counter(k));
            ASKING.put("15 look(" + k + ")", x -> x.look(k));
        }
        ASKING.put("8 moves()", x -> x.moves());
        ASKING.put("17 best()", x -> x.best());
    }

    private static int promiseOf(String call) {
        return Integer.parseInt(call.substring(0, call.indexOf(' ')));
    }

    private static void refusedByPromise() {
        for (int promise : new int[] {2, 4, 6, 7, 10, 11, 16}) {
            check.sentence(promise, "What throws or is refused changes nothing.");
            int refused = 0;
            int heard = 0;
            for (String call : DOING.keySet()) {
                if (promiseOf(call) == promise) {
                    for (String state : STATES.keySet()) {
                        boolean kept = isRefusedAndKept(state, call);
                        refused += kept ? 1 : 0;
                        heard += kept ? 0 : 1;
                    }
                }
            }
            check.due("some call is refused", refused > 0, true);
            check.due("some call is heard", heard > 0, true);
        }
    }

    private static boolean isRefusedAndKept(String state, String call) {
        CardWorkshop x = made(state);
        String answer = Check.told(() -> DOING.get(call).on(x));
        boolean refused = answer.equals("false") || answer.startsWith("throws.");
        if (refused) {
            check.due(state + ": " + call + " (" + answer + "), then", story(x), story(made(state)));
        }
        return refused;
    }

    private static void askedByPromise() {
        for (int promise : new int[] {5, 8, 9, 12, 13, 14, 15, 17}) {
            check.sentence(promise, "What throws or is refused changes nothing.");
            for (String call : ASKING.keySet()) {
                if (promiseOf(call) == promise) {
                    for (String state : STATES.keySet()) {
                        CardWorkshop x = made(state);
                        String answer = Check.told(() -> ASKING.get(call).on(x));
                        check.due("asked again: " + call, Check.told(() -> ASKING.get(call).on(x)), answer);
                        check.due(state + ": " + call + " (" + answer + "), then", story(x), story(made(state)));
                    }
                }
            }
        }
    }

    private static CardWorkshop made(String state) {
        CardWorkshop x = new CardWorkshop();
        STATES.get(state).on(x);
        return x;
    }

    /** All that can be seen of a workshop, now and behind calls that show what lies hidden in it. */
    private static String story(CardWorkshop x) {
        List<String> told = new ArrayList<>();
        told.add(sight(x));
        told.add("undo " + x.undo() + sight(x));
        told.add("act " + Check.told(() -> x.act(0)) + places(x));
        told.add("undo " + x.undo() + x.undo() + places(x));
        told.add("type " + x.type(';'));
        told.add("compile " + Check.told(x::compile) + looks(x) + Arrays.toString(code(x)));
        told.add("deal " + Check.told(() -> x.deal(1, 1)) + places(x));
        return String.join("; ", told);
    }

    private static String sight(CardWorkshop x) {
        StringBuilder told = new StringBuilder(looks(x)).append(places(x)).append(" moves");
        for (int i = 0; i < x.moves(); i++) {
            told.append(' ').append(x.move(i, false)).append(':').append(x.move(i, true));
        }
        return told.append(" best ").append(x.best()).append(" code ").append(Arrays.toString(code(x))).toString();
    }

    private static String looks(CardWorkshop x) {
        StringBuilder told = new StringBuilder(" looks");
        for (int which = 0; which < 8; which++) {
            told.append(' ').append(x.look(which));
        }
        return told.toString();
    }

    private static String places(CardWorkshop x) {
        StringBuilder told = new StringBuilder(" counters");
        for (int k = 0; k < 6; k++) {
            told.append(' ').append(x.counter(k));
        }
        for (int place = 0; place < 6; place++) {
            told.append(" place ").append(place);
            int size = x.card(place, -1);
            for (int i = 0; i < size; i++) {
                told.append(' ').append(x.card(place, i));
            }
        }
        return told.toString();
    }

    /** At most the first thirty, so that a workshop hears no more than 512 calls. */
    private static int[] code(CardWorkshop x) {
        int[] pairs = new int[2 * Math.min(30, x.look(1))];
        for (int k = 0; k < pairs.length; k++) {
            pairs[k] = x.code(k / 2, k % 2 == 1);
        }
        return pairs;
    }
}
