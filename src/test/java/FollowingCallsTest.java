/**
 * Runs in which calls of several promises follow each other: a text compiled while something is
 * dealt, a compile that throws behind a dealing, a second dealing, cards put between moves and
 * moves taken back behind that, solve and best between all of these. The answers were worked out
 * by hand from the document.
 */
public final class FollowingCallsTest {
    private static final Check check = new Check();
    private static final int NONE = CardWorkshop.NONE;
    /** 17 instructions; a card that is played brings its rank and one more. */
    private static final String GAME = "D13;M1:c>t,+rc+1,n,w=w+1;E#h=0;";
    private static final int[] GAME_CODE = {0, 1, 17, 0, 13, 51, 3, 6, 0, 1, 5, 0, 15, 0, 16, 0, 1, 0, 0, 1, 5, 0, 14, 0,
        17, 0, 2, 0, 0, 0, 9, 0, 17, 0};
    private static final String OTHER = "D24;P!w:w=1,+4;P1:n;E0;";
    private static final int[] OTHER_CODE = {1, 0, 12, 0, 17, 0, 0, 1, 14, 0, 0, 4, 15, 0, 17, 0, 0, 1, 17, 0, 16, 0, 17, 0,
        0, 0, 17, 0};
    private static final String TOO_LONG = "D46;P1:n;E1" + "+1".repeat(78) + ";";
    private static final String LONGEST = "D46;P1:n;E1" + "+1".repeat(77) + ";";

    public static void main(String[] args) {
        writtenWhileDealt();
        compiledWhileDealt();
        dealtBehindAnotherGame();
        noGameBehindADealing();
        tooLongBehindADealing();
        gameBehindOneThatWasNone();
        compiledTwice();
        secondDealing();
        dealingBehindCardsPut();
        refusedDealing();
        putBetweenMoves();
        movesBehindOnesTakenBack();
        putBeforeTheFirstMove();
        putChangesTheMoves();
        takenBackBehindTheEnd();
        solveBetweenMoves();
        bestPlayKeepsTheValue();
        solveThatThrowsBetween();
        bestBehindTexts();
        seenWhileCardsGo();
        check.end();
    }

    /** Seat 0 holds 0 and 1, seat 1 holds 2; seat 0 played the 1: seat 1 is on turn. */
    private static CardWorkshop played() {
        CardWorkshop x = Check.compiled(GAME);
        x.deal(7, 0);
        Check.put(x, 0, 0, 1);
        x.put(2, 1);
        x.act(1);
        return x;
    }

    private static void playedStands(String what, CardWorkshop x) {
        check.row(what, x, 0, 0);
        check.row(what, x, 1, 2);
        check.row(what, x, 2);
        check.row(what, x, 3, 1);
        check.moves(what, x, 0, 2);
        check.due(what + ": w", x.counter(0), 1);
        check.due(what + ": score of seat 0", x.counter(4), 2);
        check.due(what + ": score of seat 1", x.counter(5), 0);
        looks(what, x, x.look(0), 17, 3, 1, 1, 1, 0, 1);
    }

    private static void looks(String what, CardWorkshop x, int... due) {
        for (int which = 0; which < 8; which++) {
            check.due(what + ": look(" + which + ")", x.look(which), due[which]);
        }
    }

    private static void nothingIsDealt(String what, CardWorkshop x) {
        check.due(what + ": something was dealt", x.look(4), 0);
        check.due(what + ": the turn", x.look(5), NONE);
        check.due(what + ": over", x.look(6), NONE);
        check.due(what + ": moves made", x.look(7), 0);
        check.moves(what, x);
        check.noIndex(what + ": act", () -> x.act(0));
        check.due(what + ": undo", x.undo(), false);
        check.due(what + ": put", x.put(0, 0), false);
        for (int place = 0; place < 6; place++) {
            check.due(what + ": size of place " + place, x.card(place, -1), NONE);
            check.due(what + ": card of place " + place, x.card(place, 0), NONE);
            check.due(what + ": seen size of place " + place, x.seen(0, place, -1), NONE);
        }
        for (int k = 0; k < 6; k++) {
            check.due(what + ": counter " + k, x.counter(k), 0);
        }
        check.noState(what + ": solve", () -> x.solve(2000));
        check.due(what + ": best", x.best(), NONE);
    }

    private static void asAtFirst(String what, CardWorkshop x) {
        for (int k = 0; k < 6; k++) {
            check.due(what + ": counter " + k, x.counter(k), 0);
        }
        check.due(what + ": dealt", x.look(4), 1);
        check.due(what + ": turn", x.look(5), 0);
        check.due(what + ": moves made", x.look(7), 0);
        check.due(what + ": best", x.best(), NONE);
        for (int place = 3; place < 6; place++) {
            check.due(what + ": place " + place, x.card(place, -1), 0);
        }
    }

    private static void writtenWhileDealt() {
        check.sentence(2, "to the text: true");
        CardWorkshop x = played();
        check.due("written", Check.write(x, OTHER), true);
        check.due("characters", x.look(0), OTHER.length());
        playedStands("a text alone changes no table", x);
        check.code("nor the game", x, GAME_CODE);
        check.sentence(3, "The text becomes empty.");
        x.wipe();
        check.due("characters", x.look(0), 0);
        playedStands("wiped", x);
        check.due("the move goes on", x.act(0), 2);
        check.due("and back", x.undo(), true);
        playedStands("taken back", x);
    }

    private static void compiledWhileDealt() {
        check.sentence(4, "the game is in the workshop, nothing is dealt");
        CardWorkshop x = played();
        check.due("the value", x.solve(3), 0);
        check.due("best", x.best(), 0);
        Check.write(x, OTHER);
        check.due("instructions", x.compile(), 14);
        check.code("the other game", x, OTHER_CODE);
        looks("the other game", x, 0, 14, 8, 2, 0, NONE, NONE, 0);
        nothingIsDealt("the other game", x);
        Check.write(x, GAME);
        check.due("the first game again", x.compile(), 17);
        check.code("the first game again", x, GAME_CODE);
        looks("the first game again", x, 0, 17, 3, 1, 0, NONE, NONE, 0);
        nothingIsDealt("the first game again", x);
    }

    private static void dealtBehindAnotherGame() {
        check.sentence(6, "(Scores, counters, turn and moves made are as at first.)");
        CardWorkshop x = played();
        Check.write(x, OTHER);
        x.compile();
        check.due("the greater deck", x.deal(7, 3), 2);
        asAtFirst("the greater deck", x);
        check.due("hand 0", x.card(0, -1), 3);
        check.due("hand 1", x.card(1, -1), 3);
        check.moves("its moves", x, 0, -1, 1, -1);
        check.due("nothing to take back", x.undo(), false);
        check.due("its last card", x.put(7, 4), true);
        check.due("no card of it", x.put(8, 4), false);
        check.due("a move", x.act(0), 1);
        check.due("another", x.act(0), 2);
        check.due("seat 1 is on turn", x.look(5), 1);
        Check.write(x, "D11;P1:s>h;E0;");
        x.compile();
        check.due("the smaller deck", x.deal(7, 0), 1);
        asAtFirst("the smaller deck", x);
        check.row("its stock", x, 2, 0);
        check.due("a card of the greater one", x.put(1, 0), false);
        check.due("a move", x.act(0), 1);
        check.row("its only card", x, 0, 0);
        check.due("taken back", x.undo(), true);
        check.due("the moves of the greater one are gone", x.undo(), false);
        check.row("its stock again", x, 2, 0);
    }

    private static void noGameBehindADealing() {
        check.sentence(4, "IllegalArgumentException if it is no game");
        CardWorkshop x = played();
        check.due("the value", x.solve(3), 0);
        String noGame = "D24;P1:n;P1:w=2,+1;E0";
        Check.write(x, noGame);
        check.noArgument("no game", x::compile);
        check.noArgument("and again", x::compile);
        check.due("the text stays", x.look(0), noGame.length());
        check.due("what solve told stays", x.best(), 0);
        check.code("the game stays", x, GAME_CODE);
        playedStands("the table stays", x);
        check.due("the move is still to be taken back", x.undo(), true);
        check.row("the hand before it", x, 0, 0, 1);
        check.due("dealt by the game that stayed", x.deal(7, 1), 1);
    }

    private static void tooLongBehindADealing() {
        check.sentence(4, "UnsupportedOperationException if it is one, but its code would be too long");
        CardWorkshop x = played();
        check.due("the value", x.solve(3), 0);
        Check.write(x, TOO_LONG);
        check.unsupported("162 instructions", x::compile);
        check.due("the text stays", x.look(0), TOO_LONG.length());
        check.due("what solve told stays", x.best(), 0);
        check.code("the game stays", x, GAME_CODE);
        playedStands("the table stays", x);
        check.due("the game goes on", x.act(0), 2);
        check.due("to its end", x.act(0), 3);
        check.due("the value then", x.solve(1), 0);
        x.wipe();
        Check.write(x, LONGEST);
        check.due("160 instructions", x.compile(), 160);
        check.due("cards", x.look(2), 24);
        nothingIsDealt("the longest", x);
    }

    private static void gameBehindOneThatWasNone() {
        check.sentence(4, "(if this throws, it stays)");
        CardWorkshop x = played();
        Check.write(x, OTHER.substring(0, OTHER.length() - 1));
        check.noArgument("the last character is missing", x::compile);
        check.due("it is added", x.type(';'), true);
        check.due("then it is a game", x.compile(), 14);
        check.code("the other game", x, OTHER_CODE);
        nothingIsDealt("the other game", x);
        // a rule of 8 and a fault behind it: nothing of them may be left in the next game
        Check.write(x, "D46;M1:;M1:;M1:;M1:;M1:;M1:;M1:;M1:;E0:");
        check.noArgument("no game", x::compile);
        looks("the other game stays", x, 39, 14, 8, 2, 0, NONE, NONE, 0);
        x.wipe();
        Check.write(x, "D12;E#s=9;");
        check.due("a game without rules", x.compile(), 4);
        check.code("its code", x, 2, 2, 0, 9, 9, 0, 17, 0);
        looks("a game without rules", x, 0, 4, 2, 0, 0, NONE, NONE, 0);
        check.due("dealt", x.deal(0, 1), 0);
        check.moves("no rules, no moves", x);
        check.due("over", x.look(6), 1);
    }

    private static void compiledTwice() {
        check.sentence(4, "The text is read as a game, and is empty then");
        CardWorkshop x = Check.compiled(GAME);
        check.due("the text", x.look(0), 0);
        check.noArgument("an empty text is no game", x::compile);
        check.code("the game stays", x, GAME_CODE);
        check.due("and can be dealt", x.deal(0, 3), 0);
        check.noArgument("an empty text, something being dealt", x::compile);
        check.due("it stays dealt", x.look(4), 1);
    }

    private static void secondDealing() {
        check.sentence(6, "DEALING: how many cards the stock has.");
        CardWorkshop x = Check.compiled("D14;P1:s>t,+3,w=w+1,x=7,n;P1:s>p;E0;");
        // x >>> 16 is 346, 32898, 43750: 0 1 3 2, then 3 1 0 2, then 1 3 0 2
        int[] first = {2, 0, 1, 3};
        check.due("stock", x.deal(1, 1), 2);
        same("seed 1", cards(x), first);
        x.act(0);
        x.put(0, 5);
        x.act(1);
        check.due("solve fails: the game has no end", Check.told(() -> x.solve(2000)), "throws.UnsupportedOperationException");
        check.due("turn", x.look(5), 1);
        check.due("a second dealing", x.deal(1, 1), 2);
        asAtFirst("a second dealing", x);
        check.due("undo behind it", x.undo(), false);
        same("the same seed", cards(x), first);
        check.due("another n", x.deal(1, 0), 4);
        check.due("hands", x.card(0, -1) + x.card(1, -1), 0);
        check.due("its last card goes to seat 0 first", x.card(2, 3), first[0]);
        check.due("the one below to seat 1", x.card(2, 2), first[1]);
        check.due("a third dealing", x.deal(1, 9), 0);
        check.due("seat 0", x.card(0, 0), first[0]);
        check.due("seat 1", x.card(1, 0), first[1]);
        check.due("one act behind it", x.act(1), 1);
    }

    private static int[] cards(CardWorkshop x) {
        return new int[] {x.card(0, 0), x.card(1, 0), x.card(2, 0), x.card(2, 1)};
    }

    private static void same(String what, int[] got, int[] want) {
        for (int k = 0; k < want.length; k++) {
            check.due(what + ": " + k, got[k], want[k]);
        }
    }

    private static void dealingBehindCardsPut() {
        check.sentence(6, "(Scores, counters, turn and moves made are as at first.)");
        CardWorkshop x = Check.compiled("D46;P1:;E0;");
        x.deal(12, 2);
        int[] before = new int[20];
        for (int i = 0; i < 20; i++) {
            before[i] = x.card(2, i);
        }
        for (int card = 0; card < 24; card++) {
            x.put(card, card % 6);
        }
        check.due("dealt anew", x.deal(12, 2), 20);
        for (int i = 0; i < 20; i++) {
            check.due("where cards were put before does not count: " + i, x.card(2, i), before[i]);
        }
        asAtFirst("dealt anew", x);
    }

    private static void refusedDealing() {
        check.sentence(6, "IllegalArgumentException if n is below 0");
        CardWorkshop x = played();
        check.due("the value", x.solve(3), 0);
        check.noArgument("a dealing that throws", () -> x.deal(3, -1));
        playedStands("it changes nothing", x);
        check.due("nor what solve told", x.best(), 0);
        check.due("undo", x.undo(), true);
    }

    private static void putBetweenMoves() {
        check.sentence(11, "The latest move is taken back, with all that was put since");
        CardWorkshop x = Check.dealt("D16;P1:s>t,w=w+1;P1:t>s,n,+2;E0;");
        Check.put(x, 2, 0, 1, 2, 3, 4, 5);
        x.put(0, 4);
        check.due("move 1", x.act(0), 1);
        x.put(1, 5);
        check.due("move 2", x.act(0), 2);
        x.put(2, 5);
        x.put(1, 0);
        check.due("move 3", x.act(1), 3);
        x.put(0, 0);
        x.put(3, 4);
        check.row("stock", x, 2, 4);
        check.row("table", x, 3, 5);
        check.row("hand 0", x, 0, 1, 0);
        check.due("turn", x.look(5), 1);
        check.due("move 3 is taken back", x.undo(), true);
        check.row("stock", x, 2, 3);
        check.row("table", x, 3, 5, 4);
        check.row("hand 0: what was put before it", x, 0, 1);
        check.row("pile 0: the first put", x, 4, 0);
        check.row("pile 1", x, 5, 2);
        check.due("turn", x.look(5), 0);
        check.due("score", x.counter(4), 0);
        x.put(5, 1);
        check.due("move 2 is taken back", x.undo(), true);
        check.row("stock", x, 2, 2, 3, 4);
        check.row("table", x, 3, 5);
        check.row("hand 0", x, 0);
        check.row("hand 1", x, 1);
        check.row("pile 1: what was put before it", x, 5, 1);
        check.due("w", x.counter(0), 1);
        check.due("move 1 is taken back", x.undo(), true);
        check.row("stock", x, 2, 1, 2, 3, 4, 5);
        check.row("table", x, 3);
        check.row("pile 0: put before all moves", x, 4, 0);
        check.row("pile 1", x, 5);
        check.due("w", x.counter(0), 0);
        check.due("none is left", x.undo(), false);
        check.row("that takes no card back", x, 4, 0);
    }

    private static void movesBehindOnesTakenBack() {
        check.sentence(10, "how many moves were made since the dealing (and not taken back)");
        CardWorkshop x = Check.dealt("D13;P1:w=w*10+1;P1:w=w*10+2,n;E0;");
        check.due("1", x.act(0), 1);
        check.due("12", x.act(1), 2);
        check.due("back", x.undo(), true);
        check.due("11", x.act(0), 2);
        check.due("112", x.act(1), 3);
        check.due("w", x.counter(0), 112);
        check.due("back", x.undo(), true);
        check.due("w", x.counter(0), 11);
        check.due("back", x.undo(), true);
        check.due("w", x.counter(0), 1);
        check.due("turn", x.look(5), 0);
        check.due("12 again", x.act(1), 2);
        check.due("w", x.counter(0), 12);
        check.due("look(7)", x.look(7), 2);
        x.deal(0, 0);
        check.due("the first behind a dealing", x.act(0), 1);
        check.due("back", x.undo(), true);
        check.due("w", x.counter(0), 0);
        check.due("the moves before the dealing are gone", x.undo(), false);
    }

    private static void putBeforeTheFirstMove() {
        check.sentence(7, "(It is no move.)");
        CardWorkshop x = Check.dealt(GAME);
        Check.put(x, 0, 2, 0);
        check.due("moves made", x.look(7), 0);
        check.due("turn", x.look(5), 0);
        check.due("nothing to take back", x.undo(), false);
        check.row("the cards stay", x, 0, 2, 0);
        check.due("move 1", x.act(0), 1);
        x.put(1, 1);
        check.due("moves made", x.look(7), 1);
        check.due("turn", x.look(5), 1);
        check.due("score", x.counter(4), 1);
        check.due("move 2", x.act(0), 2);
        check.due("score of seat 1", x.counter(5), 2);
    }

    private static void putChangesTheMoves() {
        check.sentence(8, "How many MOVES there are");
        CardWorkshop x = Check.dealt(GAME);
        check.moves("an empty hand: over", x);
        check.due("over", x.look(6), 1);
        x.put(2, 0);
        check.moves("a card", x, 0, 2);
        check.due("no longer over", x.look(6), 0);
        x.put(0, 0);
        check.moves("two cards, by rising numbers", x, 0, 0, 0, 2);
        x.put(0, 1);
        check.moves("one went to the other seat", x, 0, 2);
        x.act(0);
        check.moves("the other seat", x, 0, 0);
        x.put(0, 5);
        check.moves("over", x);
        check.noIndex("no move is left", () -> x.act(0));
        x.undo();
        check.moves("back", x, 0, 2);
        check.row("with the card that was put", x, 1, 0);
    }

    private static void takenBackBehindTheEnd() {
        check.sentence(11, "false if there is none");
        CardWorkshop x = played();
        x.act(0);
        x.act(0);
        check.due("over", x.look(6), 1);
        check.due("the value", x.solve(1), 0);
        check.due("over: no best move", x.best(), NONE);
        check.row("the table", x, 3, 1, 2, 0);
        check.due("w", x.counter(0), 3);
        for (int k = 2; k >= 0; k--) {
            check.due("back", x.undo(), true);
            check.due("moves made", x.look(7), k);
            check.due("w", x.counter(0), k);
            check.due("not over", x.look(6), 0);
        }
        check.row("the hand", x, 0, 0, 1);
        check.due("none is left", x.undo(), false);
        check.moves("the first moves", x, 0, 0, 0, 1);
    }

    private static void solveBetweenMoves() {
        check.sentence(16, "The VALUE of the position.");
        // a seat takes 1 or 2 from 4; who takes the last one has 10
        CardWorkshop x = Check.dealt("D12;Pw<4:w=w+1,+(w=4)*10,n;Pw<3:w=w+2,+(w=4)*10,n;E0;");
        check.due("of 4", x.solve(2000), 10);
        check.due("best: leave 3", x.best(), 0);
        check.due("made", x.act(0), 1);
        check.due("behind a move", x.best(), NONE);
        check.due("of 3, seat 1", x.solve(2000), 10);
        check.due("all lose: the first", x.best(), 0);
        x.act(1);
        check.due("of 1, seat 0", x.solve(2), 10);
        check.due("taken back", x.undo(), true);
        check.due("best is forgotten", x.best(), NONE);
        check.due("told anew", x.solve(2000), 10);
        check.due("best", x.best(), 0);
        check.due("a card put where no rule looks", x.put(1, 3), true);
        check.due("best is forgotten, too", x.best(), NONE);
        check.due("the value is the same", x.solve(2000), 10);
        check.due("best", x.best(), 0);
        check.due("back to the first position", x.undo(), true);
        x.act(1);
        check.due("of 2, seat 1", x.solve(2000), -10);
        check.due("best: take both", x.best(), 1);
        x.deal(0, 0);
        check.due("a dealing", x.best(), NONE);
        check.due("of 4 again", x.solve(2000), 10);
    }

    private static void bestPlayKeepsTheValue() {
        check.sentence(17, "The first move behind which the position has the VALUE that solve() told last");
        CardWorkshop x = Check.dealt("D16;M1:+(rt<rc)*(rc+1),c>t,n;E#h=0;");
        Check.put(x, 2);
        Check.put(x, 0, 4, 0, 3);
        Check.put(x, 1, 5, 1, 2);
        int value = x.solve(2000);
        for (int k = 0; k < 6; k++) {
            check.due("the value on the way, move " + k, x.solve(2000), value);
            int best = x.best();
            for (int i = 0; i < x.moves(); i++) {
                x.act(i);
                int behind = x.solve(2000);
                x.undo();
                boolean worse = k % 2 == 0 ? behind < value : behind > value;
                check.due("move " + i + " behind " + k, i < best ? worse : i > best || behind == value, true);
            }
            check.due("best is forgotten on the way", x.best(), NONE);
            x.solve(2000);
            check.due("and told again", x.best(), best);
            check.due("made", x.act(x.best()), k + 1);
        }
        check.due("the end", x.look(6), 1);
        check.due("its value", x.solve(1), value);
        check.due("the scores", x.counter(4) - x.counter(5), value);
        check.due("no best move", x.best(), NONE);
    }

    private static void solveThatThrowsBetween() {
        check.sentence(17, "(one that throws tells none)");
        CardWorkshop x = played();
        check.due("too small a budget, none told before", Check.told(() -> x.solve(2)), "throws.UnsupportedOperationException");
        check.due("best", x.best(), NONE);
        check.due("told", x.solve(3), 0);
        check.due("too small a budget", Check.told(() -> x.solve(2)), "throws.UnsupportedOperationException");
        check.noArgument("a wrong budget", () -> x.solve(0));
        check.due("what was told before stays", x.best(), 0);
        playedStands("nothing changed", x);
        x.put(1, 1);
        check.due("a card put", x.best(), NONE);
        check.due("too small a budget", Check.told(() -> x.solve(6)), "throws.UnsupportedOperationException");
        check.due("best", x.best(), NONE);
        // seat 1 holds 2 and 1 and plays both, seat 0 the 0 between them: 2 + 1 - 3 - 2, in either order
        check.due("1 + 2 + 2 + 2 positions", x.solve(7), -2);
        check.due("the first of both", x.best(), 0);
    }

    private static void bestBehindTexts() {
        check.sentence(17, "NONE if that was never, something changed since");
        CardWorkshop x = played();
        check.due("told", x.solve(3), 0);
        Check.write(x, "D46;");
        check.due("a text", x.best(), 0);
        check.noArgument("no game", x::compile);
        check.due("a compile that throws", x.best(), 0);
        x.wipe();
        check.due("wiped", x.best(), 0);
        Check.write(x, GAME);
        x.compile();
        check.due("compiled", x.best(), NONE);
        check.due("dealt", x.deal(7, 1), 1);
        check.due("never since", x.best(), NONE);
    }

    private static void seenWhileCardsGo() {
        check.sentence(13, "NONE for the cards of the stock and of the other's hand, too (not for how many)");
        CardWorkshop x = played();
        check.due("seat 0: its hand", x.seen(0, 0, 0), 0);
        check.due("seat 1: that hand", x.seen(1, 0, 0), NONE);
        check.due("seat 1: how many", x.seen(1, 0, -1), 1);
        check.due("seat 1: the table", x.seen(1, 3, 0), 1);
        x.undo();
        check.due("seat 1: a card that was taken back", x.seen(1, 0, 1), NONE);
        check.due("seat 0: a card that was taken back", x.seen(0, 0, 1), 1);
        x.put(0, 1);
        check.due("seat 0: a card put into the other's hand", x.seen(0, 1, 1), NONE);
        check.due("seat 1: that card", x.seen(1, 1, 1), 0);
        x.put(0, 2);
        check.due("seat 1: put into the stock", x.seen(1, 2, 0), NONE);
        check.due("seat 1: how many there", x.seen(1, 2, -1), 1);
        x.act(0);
        check.due("the turn does not matter", x.seen(0, 1, 0), NONE);
        check.due("seat 1", x.seen(1, 1, 0), 2);
    }
}
