/** Promises 6, 7, 12 and 13: deal, put, card, seen. */
public final class DealTest {
    private static final Check check = new Check();
    private static final int NONE = CardWorkshop.NONE;

    public static void main(String[] args) {
        deal();
        dealsManyWays();
        dealResets();
        dealThrows();
        put();
        putRefuses();
        card();
        seen();
        check.end();
    }

    private static void deal() {
        CardWorkshop x = Check.compiled("D23;E0;");
        check.due("deal(1, 2)", x.deal(1, 2), 2);
        check.row("hand 0", x, 0, 4, 2);
        check.row("hand 1", x, 1, 3, 1);
        check.row("stock", x, 2, 5, 0);
        for (int place = 3; place < 6; place++) {
            check.row("empty", x, place);
        }
        check.due("one card: all in the stock", Check.compiled("D11;E0;").deal(5, 0), 1);
        CardWorkshop one = Check.compiled("D11;E0;");
        check.due("one card: seat 0 has it", one.deal(5, 1), 0);
        check.row("hand 0", one, 0, 0);
        check.row("hand 1", one, 1);
    }

    /** The deck as the document deals it, the last card last. */
    private static int[] deck(int cards, int seed) {
        int[] row = new int[cards];
        for (int i = 0; i < cards; i++) {
            row[i] = i;
        }
        int x = seed;
        for (int i = cards - 1; i >= 1; i--) {
            x = x * 22695477 + 1;
            int j = (x >>> 16) % (i + 1);
            int kept = row[i];
            row[i] = row[j];
            row[j] = kept;
        }
        return row;
    }

    private static void dealsManyWays() {
        int[] seeds = {0, 1, -1, 77, 123456789, Integer.MIN_VALUE, Integer.MAX_VALUE};
        int[] rounds = {0, 1, 2, 3, 7, 8, 12, 13, Integer.MAX_VALUE};
        String[] texts = {"D11;E0;", "D12;E0;", "D35;E0;", "D46;E0;"};
        for (String text : texts) {
            for (int seed : seeds) {
                // one workshop for each seed, as nothing is promised behind 512 calls
                CardWorkshop x = Check.compiled(text);
                for (int n : rounds) {
                    int[] row = deck(x.look(2), seed);
                    int given = (int) Math.min(2L * n, row.length);
                    String what = text + " deal(" + seed + ", " + n + ")";
                    check.due(what, x.deal(seed, n), row.length - given);
                    check.due(what + ": hand 0", x.card(0, -1), (given + 1) / 2);
                    check.due(what + ": hand 1", x.card(1, -1), given / 2);
                    for (int k = 0; k < row.length; k++) {
                        int behind = row.length - 1 - k;
                        int got = behind < given ? x.card(behind % 2, behind / 2) : x.card(2, k);
                        check.due(what + ": card " + k + " of the deck", got, row[k]);
                    }
                }
            }
        }
    }

    private static void dealResets() {
        CardWorkshop x = Check.compiled("D13;P1:w=1,z=2,+5,n,s>t;E0;");
        x.deal(3, 0);
        x.act(0);
        check.due("seat 1 is on turn", x.look(5), 1);
        x.put(0, 5);
        check.due("deal again", x.deal(3, 0), 3);
        for (int k = 0; k < 6; k++) {
            check.due("counter " + k, x.counter(k), 0);
        }
        check.due("turn", x.look(5), 0);
        check.due("moves made", x.look(7), 0);
        check.due("no move to take back", x.undo(), false);
        check.row("table", x, 3);
        check.row("pile", x, 5);
    }

    private static void dealThrows() {
        CardWorkshop x = new CardWorkshop();
        check.noState("no game", () -> x.deal(1, 1));
        check.noState("no game, and n below 0", () -> x.deal(1, -1));
        check.due("nothing is dealt", x.look(4), 0);
        CardWorkshop y = Check.compiled("D12;P1:w=w+1;E0;");
        check.noArgument("n below 0", () -> y.deal(1, -1));
        check.due("nothing is dealt", y.look(4), 0);
        y.deal(1, 1);
        y.act(0);
        check.noArgument("n far below 0", () -> y.deal(1, Integer.MIN_VALUE));
        check.due("the counter stays", y.counter(0), 1);
        check.due("the moves made stay", y.look(7), 1);
        check.due("the hand stays", y.card(0, -1), 1);
    }

    private static void put() {
        CardWorkshop x = Check.dealt("D15;P1:;E0;");
        Check.put(x, 3, 0, 1, 2, 3, 4);
        check.row("table", x, 3, 0, 1, 2, 3, 4);
        check.due("from the middle to the same place", x.put(2, 3), true);
        check.row("table", x, 3, 0, 1, 3, 4, 2);
        check.due("the lowest to the same place", x.put(0, 3), true);
        check.row("table", x, 3, 1, 3, 4, 2, 0);
        check.due("the top to the same place", x.put(0, 3), true);
        check.row("table", x, 3, 1, 3, 4, 2, 0);
        for (int place = 0; place < 6; place++) {
            check.due("to place " + place, x.put(3, place), true);
            check.due("it is on top", x.card(place, x.card(place, -1) - 1), 3);
        }
        check.row("what is left", x, 3, 1, 4, 2, 0);
        check.row("pile 1", x, 5, 3);
        check.row("pile 0", x, 4);
        check.due("it is no move", x.look(7), 0);
        check.due("it can't be taken back", x.undo(), false);
        check.due("the turn stays", x.look(5), 0);
    }

    private static void putRefuses() {
        CardWorkshop x = Check.dealt("D13;E0;");
        x.put(1, 2);
        int[][] wrong = {{-1, 0}, {3, 0}, {24, 0}, {0, -1}, {0, 6}, {Integer.MIN_VALUE, 0}, {0, Integer.MAX_VALUE}};
        for (int[] pair : wrong) {
            check.due("put(" + pair[0] + ", " + pair[1] + ")", x.put(pair[0], pair[1]), false);
            check.due("the stock stays", x.card(2, -1), 3);
            check.due("its top stays", x.card(2, 2), 1);
        }
        check.due("nothing was dealt", Check.compiled("D13;E0;").put(0, 0), false);
    }

    private static void card() {
        CardWorkshop x = Check.compiled("D13;E0;");
        check.due("nothing was dealt", x.card(2, 0), NONE);
        check.due("nothing was dealt: how many", x.card(2, -1), NONE);
        x.deal(0, 0);
        Check.put(x, 4, 2, 0, 1);
        check.row("pile 0", x, 4, 2, 0, 1);
        check.due("how many of none", x.card(0, -1), 0);
        int[][] wrong = {{4, -2}, {4, 3}, {4, Integer.MIN_VALUE}, {4, Integer.MAX_VALUE}, {-1, 0}, {6, 0}, {-1, -1}, {6, -1}};
        for (int[] pair : wrong) {
            check.due("card(" + pair[0] + ", " + pair[1] + ")", x.card(pair[0], pair[1]), NONE);
        }
    }

    private static void seen() {
        CardWorkshop x = Check.compiled("D16;E0;");
        check.due("nothing was dealt", x.seen(0, 0, -1), NONE);
        x.deal(0, 0);
        for (int place = 0; place < 6; place++) {
            x.put(place, place);
        }
        for (int seat = 0; seat < 2; seat++) {
            for (int place = 0; place < 6; place++) {
                boolean hidden = place == 2 || place == 1 - seat;
                String what = "seat " + seat + ", place " + place;
                check.due(what, x.seen(seat, place, 0), hidden ? NONE : place);
                check.due(what + ": how many", x.seen(seat, place, -1), 1);
                check.due(what + ": none such", x.seen(seat, place, 1), NONE);
                check.due(what + ": card -2", x.seen(seat, place, -2), NONE);
            }
            check.due("no such place", x.seen(seat, 6, 0), NONE);
            check.due("no such place: how many", x.seen(seat, -1, -1), NONE);
        }
        for (int seat : new int[] {-1, 2, Integer.MIN_VALUE, Integer.MAX_VALUE}) {
            check.due("seat " + seat, x.seen(seat, 3, 0), NONE);
            check.due("seat " + seat + ": how many", x.seen(seat, 3, -1), NONE);
        }
    }
}
