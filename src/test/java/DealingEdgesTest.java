/** Promises 6, 7, 12 and 13: each sentence that names an edge of dealing, putting and seeing cards, on both sides. */
public final class DealingEdgesTest {
    private static final Check check = new Check();
    private static final int NONE = CardWorkshop.NONE;
    private static final int[] FAR = {Integer.MIN_VALUE, Integer.MIN_VALUE + 1, Integer.MAX_VALUE - 1, Integer.MAX_VALUE};

    public static void main(String[] args) {
        dealWithoutAGame();
        dealBelowZero();
        dealAsAtFirst();
        deckOfOneAndTwo();
        shuffleWraps();
        lastRoundOfAnOddDeck();
        asLongAsThereAreCards();
        stockAsItLies();
        ranksOfTheFirstAndLast();
        putOnTheSame();
        putNoSuchCardOrPlace();
        putBeforeADealing();
        putIsNoMove();
        lowestAndTop();
        howMany();
        noSuchCard();
        cardBeforeADealing();
        hiddenCards();
        noSuchSeat();
        seenBeforeADealing();
        check.end();
    }

    private static void dealWithoutAGame() {
        check.sentence(6, "IllegalStateException if there is no game");
        CardWorkshop x = new CardWorkshop();
        check.noState("a new object", () -> x.deal(0, 0));
        check.noState("many cards", () -> x.deal(1, 24));
        Check.write(x, "D11;E0");
        check.noState("a text alone", () -> x.deal(0, 0));
        check.noArgument("a text that is no game", x::compile);
        check.noState("behind a compile that threw", () -> x.deal(0, 0));
        check.due("nothing is dealt", x.look(4), 0);
        Check.write(x, ";");
        x.compile();
        check.due("with a game", x.deal(0, 0), 1);
        check.due("it is dealt", x.look(4), 1);
    }

    private static void dealBelowZero() {
        check.sentence(6, "IllegalArgumentException if n is below 0");
        CardWorkshop x = Check.compiled("D22;P1:w=1;E0;");
        for (int n : new int[] {-1, -2, Integer.MIN_VALUE + 1, Integer.MIN_VALUE}) {
            check.noArgument("deal(5, " + n + ")", () -> x.deal(5, n));
            check.due("nothing is dealt", x.look(4), 0);
        }
        check.due("deal(5, 0)", x.deal(5, 0), 4);
        x.act(0);
        check.noArgument("deal(6, -1)", () -> x.deal(6, -1));
        check.due("the move stays", x.look(7), 1);
        check.due("the counter stays", x.counter(0), 1);
        check.due("a seed below 0 is none", x.deal(-1, 1), 2);
    }

    private static void dealAsAtFirst() {
        check.sentence(6, "(Scores, counters, turn and moves made are as at first.)");
        CardWorkshop x = Check.compiled("D13;P1:w=1,x=2,y=3,z=4,+5,n;E0;");
        for (int round = 0; round < 2; round++) {
            check.due("deal", x.deal(9, 0), 3);
            for (int k = 0; k < 6; k++) {
                check.due("counter(" + k + ")", x.counter(k), 0);
            }
            check.due("turn", x.look(5), 0);
            check.due("moves made", x.look(7), 0);
            check.due("none to take back", x.undo(), false);
            for (int place = 0; place < 6; place++) {
                check.due("cards of place " + place, x.card(place, -1), place == 2 ? 3 : 0);
            }
            check.due("a move", x.act(0), 1);
            check.due("turn, then", x.look(5), 1);
            check.due("another", x.act(0), 2);
            check.due("a third", x.act(0), 3);
            for (int k = 0; k < 4; k++) {
                check.due("counter(" + k + "), then", x.counter(k), k + 1);
            }
            check.due("score 0, then", x.counter(4), 10);
            check.due("score 1, then", x.counter(5), 5);
            Check.put(x, 3, 0);
            Check.put(x, 5, 1);
        }
    }

    /** The deck by arithmetic that can't wrap, so that a wrong wrap of the class shows. */
    private static int[] deck(int cards, int seed) {
        int[] row = new int[cards];
        for (int i = 0; i < cards; i++) {
            row[i] = i;
        }
        long x = seed & 0xFFFFFFFFL;
        for (int i = cards - 1; i >= 1; i--) {
            x = (x * 22695477L + 1) % (1L << 32);
            int j = (int) ((x / 65536) % (i + 1));
            int kept = row[i];
            row[i] = row[j];
            row[j] = kept;
        }
        return row;
    }

    private static void deckOfOneAndTwo() {
        check.sentence(6, "for i from its last place down to 1:");
        for (int seed : new int[] {0, 1, 2, 3, 5, 8, -1, -7}) {
            CardWorkshop one = Check.compiled("D11;E0;");
            one.deal(seed, 0);
            check.row("one card, seed " + seed, one, 2, 0);
            CardWorkshop two = Check.compiled("D21;E0;");
            two.deal(seed, 0);
            check.row("two cards, seed " + seed, two, 2, deck(2, seed));
            CardWorkshop three = Check.compiled("D13;E0;");
            three.deal(seed, 0);
            check.row("three cards, seed " + seed, three, 2, deck(3, seed));
        }
        CardWorkshop kept = Check.compiled("D12;E0;");
        kept.deal(0, 0);
        check.row("seed 0: 1 >>> 16 is 0, the two change places", kept, 2, 1, 0);
    }

    private static void shuffleWraps() {
        check.sentence(6, "x becomes x * 22695477 + 1, and the cards at the places i and (x >>> 16) % (i + 1) change places");
        int[] seeds = {0, 1, -1, 94, 95, -94, -95, 65535, 65536, 1 << 30, Integer.MAX_VALUE, Integer.MIN_VALUE, 123456789};
        for (int seed : seeds) {
            for (String text : new String[] {"D46;E0;", "D35;E0;"}) {
                CardWorkshop x = Check.compiled(text);
                int[] row = deck(x.look(2), seed);
                check.due("seed " + seed, x.deal(seed, 0), row.length);
                check.row("seed " + seed, x, 2, row);
            }
        }
    }

    private static void lastRoundOfAnOddDeck() {
        check.sentence(6, "the last card goes to the hand of seat 0, and then (if there is one) the last one to that of seat 1");
        CardWorkshop x = Check.compiled("D13;E0;");
        int[] row = deck(3, 4);
        check.due("one round leaves one card", x.deal(4, 1), 1);
        check.row("hand 0", x, 0, row[2]);
        check.row("hand 1", x, 1, row[1]);
        check.row("stock", x, 2, row[0]);
        check.due("for seat 1 there is none in the second round", x.deal(4, 2), 0);
        check.row("hand 0", x, 0, row[2], row[0]);
        check.row("hand 1", x, 1, row[1]);
        check.row("stock", x, 2);
        CardWorkshop one = Check.compiled("D11;E0;");
        check.due("one card alone", one.deal(4, 1), 0);
        check.row("it goes to seat 0", one, 0, 0);
        check.row("none to seat 1", one, 1);
        CardWorkshop two = Check.compiled("D12;E0;");
        int[] pair = deck(2, 4);
        check.due("two cards", two.deal(4, 1), 0);
        check.row("the last to seat 0", two, 0, pair[1]);
        check.row("the other to seat 1", two, 1, pair[0]);
    }

    private static void asLongAsThereAreCards() {
        check.sentence(6, "(as long as there are cards)");
        for (int suits = 1; suits <= 4; suits++) {
            for (int ranks = 1; ranks <= 6; ranks++) {
                int cards = suits * ranks;
                int half = cards / 2;
                CardWorkshop x = Check.compiled("D" + suits + ranks + ";E0;");
                for (int n : new int[] {0, 1, half - 1, half, half + 1, half + 2, cards, 1000000, 1 << 30, Integer.MAX_VALUE}) {
                    if (n < 0) {
                        continue;
                    }
                    int given = (int) Math.min(2L * n, cards);
                    String what = cards + " cards, n " + n;
                    check.due(what, x.deal(n, n), cards - given);
                    check.due(what + ": hand 0", x.card(0, -1), (given + 1) / 2);
                    check.due(what + ": hand 1", x.card(1, -1), given / 2);
                    check.due(what + ": stock", x.card(2, -1), cards - given);
                }
            }
        }
    }

    private static void stockAsItLies() {
        check.sentence(6, "what is left is the stock, as it lies");
        for (int n : new int[] {0, 1, 11, 12}) {
            CardWorkshop x = Check.compiled("D46;E0;");
            int[] row = deck(24, 2026);
            check.due("how many the stock has, n " + n, x.deal(2026, n), 24 - 2 * n);
            check.row("stock, n " + n, x, 2, java.util.Arrays.copyOf(row, 24 - 2 * n));
            int[] first = new int[n];
            int[] second = new int[n];
            for (int k = 0; k < n; k++) {
                first[k] = row[23 - 2 * k];
                second[k] = row[22 - 2 * k];
            }
            check.row("hand 0, n " + n, x, 0, first);
            check.row("hand 1, n " + n, x, 1, second);
        }
    }

    private static void ranksOfTheFirstAndLast() {
        check.sentence(10, "a card's suit is card / ranks, its rank card % ranks");
        for (int suits = 1; suits <= 4; suits++) {
            for (int ranks = 1; ranks <= 6; ranks++) {
                CardWorkshop x = Check.dealt("D" + suits + ranks + ";P1:w=rt,x=ut;E0;");
                for (int card : new int[] {0, ranks - 1, ranks, suits * ranks - 1}) {
                    if (x.put(card, 3)) {
                        x.act(0);
                        check.due("D" + suits + ranks + ": rank of " + card, x.counter(0), card % ranks);
                        check.due("D" + suits + ranks + ": suit of " + card, x.counter(1), card / ranks);
                    }
                }
            }
        }
    }

    private static void putOnTheSame() {
        check.sentence(7, "The card is taken out of its place and put on top of one (also the same): true");
        CardWorkshop x = Check.dealt("D14;E0;");
        for (int place = 0; place < 6; place++) {
            Check.put(x, place, 0, 1, 2, 3);
            check.row("filled", x, place, 0, 1, 2, 3);
            check.due("the lowest on the same", x.put(0, place), true);
            check.row("the lowest on the same", x, place, 1, 2, 3, 0);
            check.due("one between on the same", x.put(2, place), true);
            check.row("one between on the same", x, place, 1, 3, 0, 2);
            check.due("the top on the same", x.put(2, place), true);
            check.row("the top on the same", x, place, 1, 3, 0, 2);
            int other = (place + 1) % 6;
            check.due("one between on another", x.put(3, other), true);
            check.row("what it left", x, place, 1, 0, 2);
            check.row("where it went", x, other, 3);
            check.due("the top on another", x.put(2, other), true);
            check.row("what it left", x, place, 1, 0);
            check.row("where it went", x, other, 3, 2);
        }
        CardWorkshop one = Check.dealt("D11;E0;");
        check.due("the only card on the same", one.put(0, 2), true);
        check.row("the only card on the same", one, 2, 0);
        check.due("the only card on another", one.put(0, 4), true);
        check.row("the only card on another", one, 4, 0);
        check.row("none is left", one, 2);
    }

    private static void putNoSuchCardOrPlace() {
        check.sentence(7, "false if there is no such card or place, or nothing was dealt");
        for (String text : new String[] {"D11;E0;", "D13;E0;", "D46;E0;"}) {
            CardWorkshop x = Check.dealt(text);
            int cards = x.look(2);
            int top = x.card(2, cards - 1);
            for (int card : new int[] {-2, -1, cards, cards + 1, 24, 25}) {
                check.due(text + " put(" + card + ", 3)", x.put(card, 3), false);
                check.due("nothing is put", x.card(3, -1), 0);
            }
            for (int place : new int[] {-2, -1, 6, 7}) {
                check.due(text + " put(0, " + place + ")", x.put(0, place), false);
                check.due("all stay", x.card(2, -1), cards);
                check.due("in their order", x.card(2, cards - 1), top);
            }
            for (int far : FAR) {
                check.due(text + " put(" + far + ", 3)", x.put(far, 3), false);
                check.due(text + " put(0, " + far + ")", x.put(0, far), false);
                check.due(text + " put(" + far + ", " + far + ")", x.put(far, far), false);
            }
            check.due(text + ": both are none", x.put(-1, 6), false);
            check.due(text + ": the first card on the first place", x.put(0, 0), true);
            check.due("it lies there", x.card(0, 0), 0);
            check.due(text + ": the last card on the last place", x.put(cards - 1, 5), true);
            check.due("it lies there", x.card(5, 0), cards - 1);
        }
    }

    private static void putBeforeADealing() {
        check.sentence(7, "or nothing was dealt. (It is no move.)");
        CardWorkshop x = new CardWorkshop();
        check.due("without a game", x.put(0, 0), false);
        Check.write(x, "D12;E0;");
        x.compile();
        check.due("with a game alone", x.put(0, 0), false);
        x.deal(0, 0);
        check.row("nothing was put before", x, 0);
        check.due("dealt", x.put(0, 0), true);
        Check.write(x, "D12;E0;");
        x.compile();
        check.due("behind another compile", x.put(0, 0), false);
        check.due("no card", x.card(0, -1), NONE);
    }

    private static void putIsNoMove() {
        check.sentence(7, "(It is no move.)");
        CardWorkshop x = Check.dealt("D12;P1:n;E0;");
        check.due("put", x.put(0, 1), true);
        check.due("moves made", x.look(7), 0);
        check.due("turn", x.look(5), 0);
        check.due("none to take back", x.undo(), false);
        check.row("it stays", x, 1, 0);
        x.act(0);
        x.put(1, 1);
        check.due("moves made behind one", x.look(7), 1);
        check.due("turn behind one", x.look(5), 1);
        for (int k = 2; k <= 60; k++) {
            x.act(0);
        }
        check.due("put behind 60 moves", x.put(1, 4), true);
        check.due("still 60 moves", x.look(7), 60);
    }

    private static void lowestAndTop() {
        check.sentence(12, "Card i of a place (0 its lowest one)");
        CardWorkshop x = Check.dealt("D46;E0;");
        for (int card = 0; card < 24; card++) {
            x.put((card * 5) % 24, 4);
        }
        check.due("the lowest", x.card(4, 0), 0);
        check.due("the next", x.card(4, 1), 5);
        check.due("the one below the top", x.card(4, 22), 14);
        check.due("the top", x.card(4, 23), 19);
        check.due("none above it", x.card(4, 24), NONE);
        x.put(7, 5);
        check.due("the lowest is the top", x.card(5, 0), 7);
        check.due("none above it", x.card(5, 1), NONE);
    }

    private static void howMany() {
        check.sentence(12, "how many it has, if i is -1");
        CardWorkshop x = Check.dealt("D46;E0;");
        check.due("all", x.card(2, -1), 24);
        check.due("none", x.card(3, -1), 0);
        x.put(23, 3);
        check.due("all but one", x.card(2, -1), 23);
        check.due("one", x.card(3, -1), 1);
        check.due("no more for -2", x.card(2, -2), NONE);
        check.due("the card at 0", x.card(3, 0), 23);
    }

    private static void noSuchCard() {
        check.sentence(12, "NONE if there is none such, or nothing was dealt");
        CardWorkshop x = Check.dealt("D13;E0;");
        for (int place = 0; place < 6; place++) {
            check.due("no card in place " + place, x.card(place, place == 2 ? 3 : 0), NONE);
            Check.put(x, place, 2, 1, 0);
            check.row("three", x, place, 2, 1, 0);
            check.due("i -2 of place " + place, x.card(place, -2), NONE);
            check.due("i 3 of place " + place, x.card(place, 3), NONE);
            check.due("i 4 of place " + place, x.card(place, 4), NONE);
            for (int far : FAR) {
                check.due("i " + far + " of place " + place, x.card(place, far), NONE);
            }
        }
        for (int place : new int[] {-2, -1, 6, 7, 24, FAR[0], FAR[1], FAR[2], FAR[3]}) {
            for (int i : new int[] {-2, -1, 0, 1}) {
                check.due("card(" + place + ", " + i + ")", x.card(place, i), NONE);
            }
        }
    }

    private static void cardBeforeADealing() {
        check.sentence(12, "or nothing was dealt.");
        CardWorkshop x = new CardWorkshop();
        for (int round = 0; round < 3; round++) {
            for (int place = -1; place <= 6; place++) {
                check.due("round " + round + ": card(" + place + ", -1)", x.card(place, -1), NONE);
                check.due("round " + round + ": card(" + place + ", 0)", x.card(place, 0), NONE);
            }
            if (round == 1) {
                x.deal(0, 1);
                check.due("dealt: hand 0", x.card(0, -1), 1);
                check.due("dealt: stock", x.card(2, -1), 2);
            }
            Check.write(x, "D22;E0;");
            x.compile();
        }
    }

    private static void hiddenCards() {
        check.sentence(13, "NONE for the cards of the stock and of the other's hand, too (not for how many)");
        CardWorkshop x = Check.dealt("D34;E0;");
        for (int card = 0; card < 12; card++) {
            x.put(card, card / 2);
        }
        for (int seat = 0; seat < 2; seat++) {
            for (int place = 0; place < 6; place++) {
                boolean hidden = place == 2 || place < 2 && place != seat;
                String what = "seat " + seat + ", place " + place;
                check.due(what + ": the lowest", x.seen(seat, place, 0), hidden ? NONE : 2 * place);
                check.due(what + ": the top", x.seen(seat, place, 1), hidden ? NONE : 2 * place + 1);
                check.due(what + ": none such", x.seen(seat, place, 2), NONE);
                check.due(what + ": how many", x.seen(seat, place, -1), 2);
                check.due(what + ": i -2", x.seen(seat, place, -2), NONE);
                check.due(what + ": all see what card tells", x.card(place, 1), 2 * place + 1);
            }
            for (int place : new int[] {-1, 6, Integer.MIN_VALUE, Integer.MAX_VALUE}) {
                for (int i : new int[] {-2, -1, 0}) {
                    check.due("seen(" + seat + ", " + place + ", " + i + ")", x.seen(seat, place, i), NONE);
                }
            }
        }
    }

    private static void noSuchSeat() {
        check.sentence(13, "NONE if there is no such seat");
        CardWorkshop x = Check.dealt("D16;E0;");
        for (int place = 0; place < 6; place++) {
            x.put(place, place);
        }
        for (int seat : new int[] {-2, -1, 2, 3, FAR[0], FAR[1], FAR[2], FAR[3]}) {
            for (int place = 0; place < 6; place++) {
                check.due("seat " + seat + ", place " + place, x.seen(seat, place, 0), NONE);
                check.due("seat " + seat + ", place " + place + ": how many", x.seen(seat, place, -1), NONE);
            }
        }
        for (int seat = 0; seat < 2; seat++) {
            check.due("seat " + seat, x.seen(seat, 3, 0), 3);
            check.due("seat " + seat + ": how many", x.seen(seat, 3, -1), 1);
        }
    }

    private static void seenBeforeADealing() {
        check.sentence(13, "The same as a seat sees it");
        CardWorkshop x = new CardWorkshop();
        for (int round = 0; round < 2; round++) {
            for (int place = 0; place < 6; place++) {
                check.due("nothing was dealt, place " + place, x.seen(0, place, 0), NONE);
                check.due("nothing was dealt, place " + place + ": how many", x.seen(1, place, -1), NONE);
            }
            Check.write(x, "D22;E0;");
            x.compile();
        }
        x.deal(0, 1);
        check.due("dealt: seat 0's own card", x.seen(0, 0, 0), x.card(0, 0));
        check.due("dealt: seat 1's own card", x.seen(1, 1, 0), x.card(1, 0));
        check.due("dealt: the stock", x.seen(1, 2, -1), 2);
    }
}
