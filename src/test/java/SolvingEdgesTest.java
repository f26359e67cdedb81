/** Promises 16 and 17: each sentence that names an edge of solving and of the best move, on both sides. */
public final class SolvingEdgesTest {
    private static final Check check = new Check();
    private static final int NONE = CardWorkshop.NONE;
    private static final String FAILS = "throws.UnsupportedOperationException";
    /** Integer.MAX_VALUE, written as an expr. */
    private static final String MOST = "999*999*999*2+999*999*153+999*784+280";
    /** Positions by depth: 1, 1, 2, 4, 24, 48, 384, 1536. */
    private static final String GAME_OF_2000 = "D11;Pw<7:w=w+1;P0<w&w<7:w=w+1;Pw=3|w=5|w=6:w=w+1;Pw=3|w=5|w=6:w=w+1;"
            + "Pw=3|w=5:w=w+1;Pw=3|w=5:w=w+1;Pw=5:w=w+1;Pw=5:w=w+1;E0;";
    /** Positions by depth: 1, 2, 6, 24, 48, 384, 1536. */
    private static final String GAME_OF_2001 = "D11;Pw<6:w=w+1;Pw<6:w=w+1;Pw=1|w=2|w=4|w=5:w=w+1;Pw=2|w=4|w=5:w=w+1;"
            + "Pw=4:w=w+1;Pw=4:w=w+1;Pw=4:w=w+1;Pw=4:w=w+1;E0;";

    public static void main(String[] args) {
        solveBeforeADealing();
        budgetRange();
        fails();
        morePositionsThanABudget();
        eachWayCounts();
        theGreatestBudget();
        tenMovesDeep();
        valueIfOver();
        greatestAndLeast();
        valuesThatWrap();
        bestIsTheFirst();
        bestNever();
        bestBehindADealing();
        bestBehindAMove();
        bestBehindOneTakenBack();
        bestBehindACardPut();
        bestBehindAnotherGame();
        bestOfOver();
        bestBehindASolveThatThrows();
        bestIsOfTheLast();
        check.end();
    }

    private static String solve(CardWorkshop x, int budget) {
        return Check.told(() -> x.solve(budget));
    }

    private static void solveBeforeADealing() {
        check.sentence(16, "IllegalStateException if nothing was dealt");
        CardWorkshop x = new CardWorkshop();
        check.noState("without a game", () -> x.solve(1));
        Check.write(x, "D11;E0;");
        x.compile();
        check.noState("with a game alone", () -> x.solve(1));
        check.noState("the greatest budget", () -> x.solve(2000));
        x.deal(0, 0);
        check.due("dealt", solve(x, 1), "0");
        Check.write(x, "D11;E0;");
        x.compile();
        check.noState("behind another compile", () -> x.solve(1));
    }

    private static void budgetRange() {
        check.sentence(16, "IllegalArgumentException if budget is not 1 .. 2000");
        CardWorkshop x = Check.dealt("D11;E0;");
        for (int budget : new int[] {0, -1, -2000, Integer.MIN_VALUE, 2001, 2002, 65536 + 5, Integer.MAX_VALUE}) {
            check.noArgument("solve(" + budget + ")", () -> x.solve(budget));
        }
        for (int budget : new int[] {1, 2, 1000, 1999, 2000}) {
            check.due("solve(" + budget + ")", solve(x, budget), "0");
        }
        CardWorkshop failing = Check.dealt("D11;P1:;E0;");
        check.noArgument("one that would fail, too", () -> failing.solve(0));
        check.noArgument("one that would fail, too", () -> failing.solve(2001));
    }

    private static void fails() {
        check.sentence(16, "UnsupportedOperationException if it FAILS");
        CardWorkshop x = Check.dealt("D11;Pw<3:w=w+1,+2;E0;");
        check.due("too many positions", solve(x, 3), FAILS);
        check.due("just enough", solve(x, 4), "6");
        CardWorkshop endless = Check.dealt("D11;P1:;E0;");
        check.due("without an end", solve(endless, 2000), FAILS);
        check.due("and again", solve(endless, 2000), FAILS);
    }

    private static void morePositionsThanABudget() {
        check.sentence(16, "it FAILS if there would be more of them (each way to one counts) than a budget");
        check.due("over: one position", solve(Check.dealt("D11;P1:;E1;"), 1), "0");
        CardWorkshop two = Check.dealt("D11;P!w:w=1,+5;E0;");
        check.due("two positions, budget 1", solve(two, 1), FAILS);
        check.due("two positions, budget 2", solve(two, 2), "5");
        check.due("two positions, budget 3", solve(two, 3), "5");
        CardWorkshop wide = Check.dealt("D46;M!w:w=1,+rc;E0;");
        for (int card = 0; card < 24; card++) {
            wide.put(card, 0);
        }
        check.due("25 positions, budget 24", solve(wide, 24), FAILS);
        check.due("25 positions, budget 25", solve(wide, 25), "5");
        CardWorkshop uneven = Check.dealt("D11;P!w:w=9;P!w:w=1;Pw=1|w=2:w=w+1,+1;E0;");
        check.due("1 + 2 + 1 + 1 positions, budget 4", solve(uneven, 4), FAILS);
        check.due("1 + 2 + 1 + 1 positions, budget 5", solve(uneven, 5), "2");
    }

    private static void eachWayCounts() {
        check.sentence(16, "(each way to one counts)");
        CardWorkshop same = Check.dealt("D11;P!w:w=1;P!w:w=1;P!w:w=1;E0;");
        check.due("three ways to one position, budget 2", solve(same, 2), FAILS);
        check.due("three ways to one position, budget 3", solve(same, 3), FAILS);
        check.due("three ways to one position, budget 4", solve(same, 4), "0");
        CardWorkshop orders = Check.dealt("D12;M1:c>t;E0;");
        Check.put(orders, 0, 0, 1);
        check.due("two cards in both orders, budget 4", solve(orders, 4), FAILS);
        check.due("two cards in both orders, budget 5", solve(orders, 5), "0");
        CardWorkshop back = Check.dealt("D11;Px<2:w=!w,x=x+1;Px<2:x=x+1;E0;");
        check.due("1 + 2 + 4, budget 6", solve(back, 6), FAILS);
        check.due("1 + 2 + 4, budget 7", solve(back, 7), "0");
    }

    private static void theGreatestBudget() {
        check.sentence(16, "than a budget, or one more than 10 moves deep");
        CardWorkshop x = Check.dealt(GAME_OF_2000);
        check.due("2000 positions, budget 1999", solve(x, 1999), FAILS);
        check.due("2000 positions, budget 2000", solve(x, 2000), "0");
        CardWorkshop y = Check.dealt(GAME_OF_2001);
        check.due("2001 positions, budget 2000", solve(y, 2000), FAILS);
        y.act(0);
        check.due("the half of them, budget 999", solve(y, 999), FAILS);
        check.due("the half of them, budget 1000", solve(y, 1000), "0");
    }

    private static void tenMovesDeep() {
        check.sentence(16, "or one more than 10 moves deep");
        for (int deep = 1; deep <= 14; deep++) {
            CardWorkshop x = Check.dealt("D11;Pw<" + deep + ":w=w+1,+1;E0;");
            check.due(deep + " moves deep", solve(x, 2000), deep <= 10 ? "" + deep : FAILS);
            CardWorkshop ended = Check.dealt("D11;P1:w=w+1,+1;Ew=" + deep + ";");
            check.due(deep + " moves deep, by E", solve(ended, 2000), deep <= 10 ? "" + deep : FAILS);
            CardWorkshop side = Check.dealt("D11;P!w:w=99,+50;Pw<" + deep + ":w=w+1,+1;E0;");
            check.due(deep + " moves deep on a way aside", solve(side, 2000), deep <= 10 ? "50" : FAILS);
        }
        CardWorkshop x = Check.dealt("D11;Pw<30:w=w+1,+1;E0;");
        for (int k = 0; k < 19; k++) {
            x.act(0);
        }
        check.due("11 moves deep behind 19 made", solve(x, 2000), FAILS);
        x.act(0);
        check.due("10 moves deep behind 20 made", solve(x, 2000), "30");
        check.due("11 positions, budget 10", solve(x, 10), FAILS);
        check.due("11 positions, budget 11", solve(x, 11), "30");
        CardWorkshop late = Check.dealt("D11;Pw<70:w=w+1,+1;E0;");
        for (int k = 0; k < 60; k++) {
            late.act(0);
        }
        check.due("behind 60 made, though none more can be", solve(late, 2000), "70");
    }

    private static void valueIfOver() {
        check.sentence(16, "if it is OVER the score of seat 0 less that of seat 1");
        CardWorkshop x = Check.dealt("D11;Pw=0:w=1,+3,n;Pw=1:w=2,+5;Ew=2;");
        x.act(0);
        x.act(0);
        check.due("over by E", solve(x, 1), "-2");
        CardWorkshop y = Check.dealt("D11;Pw=0:w=1,+5,n;Pw=1:w=2,+3;E0;");
        y.act(0);
        y.act(0);
        check.due("over, as no move is legal", solve(y, 1), "2");
        check.due("without scores", solve(Check.dealt("D11;E0;"), 1), "0");
    }

    private static void greatestAndLeast() {
        check.sentence(16, "the greatest if seat 0 is on turn, else the least");
        for (int turn = 0; turn < 2; turn++) {
            // seat 1 takes the least of what its own scores make negative
            String start = turn == 0 ? "Px=0:x=1" : "Px=0:x=1,n";
            CardWorkshop x = Check.dealt("D11;" + start + ";Px=1:x=2,+0-7;Px=1:x=2,+4;Px=1:x=2,+9;Px=1:x=2,+1;E0;");
            x.act(0);
            check.due("seat " + turn, solve(x, 5), turn == 0 ? "9" : "-9");
            check.due("its move", x.best(), 2);
            CardWorkshop below = Check.dealt("D11;" + start + ";Px=1:x=2,+0-9;Px=1:x=2,+0-4;Px=1:x=2,+0-6;E0;");
            below.act(0);
            check.due("seat " + turn + ", all on the other side of 0", solve(below, 4), turn == 0 ? "-4" : "4");
            check.due("its move", below.best(), 1);
        }
        CardWorkshop both = Check.dealt("D11;P!x:x=1,n;P!x:x=2,n;Px=1:x=5,+3;Px=1:x=5,+8;Px=2:x=5,+4;Px=2:x=5,+5;E0;");
        check.due("the greatest of the least", solve(both, 7), "-5");
        check.due("the second move", both.best(), 1);
    }

    private static void valuesThatWrap() {
        check.sentence(16, "All sums, differences and products wrap.");
        CardWorkshop x = Check.dealt("D11;P!w:w=1,+" + MOST + ",n;Pw=1:w=2;Pw=1:w=2,+0-1;E0;");
        check.due("seat 1 takes the least, which is a wrapped one", solve(x, 4), "" + Integer.MIN_VALUE);
        x.act(0);
        check.due("from there", solve(x, 3), "" + Integer.MIN_VALUE);
        check.due("it is the second move", x.best(), 1);
        x.act(0);
        check.due("the other one does not wrap", solve(x, 1), "" + Integer.MAX_VALUE);
        CardWorkshop far = Check.dealt("D11;P!w:w=1,+0-(" + MOST + ")-1;P!w:w=1,+" + MOST + ";P!w:w=1;E0;");
        check.due("the greatest of the farthest", solve(far, 4), "" + Integer.MAX_VALUE);
        check.due("it is the second move", far.best(), 1);
        CardWorkshop least = Check.dealt("D11;P!w:w=1,+0-(" + MOST + ")-1;E0;");
        check.due("the least value of all", solve(least, 2), "" + Integer.MIN_VALUE);
        check.due("its move", least.best(), 0);
        CardWorkshop most = Check.dealt("D11;P!x:x=1,n;Px&!w:w=1,+0-(" + MOST + ");E0;");
        most.act(0);
        check.due("the greatest value for seat 1", solve(most, 2), "" + Integer.MAX_VALUE);
        check.due("its move", most.best(), 0);
    }

    private static void bestIsTheFirst() {
        check.sentence(17, "The first move behind which the position has the VALUE that solve() told last");
        String[] scores = {"3,3,3", "1,3,3", "1,2,3", "3,1,3", "3,1,1", "1,3,1"};
        int[] firsts = {0, 1, 2, 0, 0, 1};
        for (int k = 0; k < scores.length; k++) {
            String[] each = scores[k].split(",");
            String text = "P!w:w=1,+" + each[0] + ";P!w:w=1,+" + each[1] + ";P!w:w=1,+" + each[2] + ";E0;";
            CardWorkshop x = Check.dealt("D11;" + text);
            check.due("scores " + scores[k], solve(x, 4), "3");
            check.due("scores " + scores[k] + ": best", x.best(), firsts[k]);
            check.due("and again", x.best(), firsts[k]);
            CardWorkshop y = Check.dealt("D11;Px=0:x=1,n;" + text.replace("P!w", "Px&!w"));
            y.act(0);
            check.due("seat 1, scores " + scores[k], solve(y, 4), "-3");
            check.due("seat 1, scores " + scores[k] + ": best", y.best(), firsts[k]);
        }
        CardWorkshop x = Check.dealt("D13;P!w:w=1;M!w:w=1,+rc;E0;");
        Check.put(x, 0, 2, 0);
        check.due("moves of two rules", solve(x, 4), "2");
        check.due("the number is the move's, not the rule's", x.best(), 2);
    }

    private static CardWorkshop told() {
        CardWorkshop x = Check.dealt("D13;Pw<3:w=w+1;Pw<3:w=w+1,+1;E0;");
        x.act(0);
        check.due("told", solve(x, 7), "2");
        check.due("best", x.best(), 1);
        return x;
    }

    private static void bestNever() {
        check.sentence(17, "NONE if that was never");
        CardWorkshop x = new CardWorkshop();
        check.due("a new object", x.best(), NONE);
        check.noState("a solve that throws", () -> x.solve(7));
        check.due("behind it", x.best(), NONE);
        Check.write(x, "D11;P!w:w=1;E0;");
        x.compile();
        check.due("a game alone", x.best(), NONE);
        x.deal(0, 0);
        check.due("dealt", x.best(), NONE);
        check.due("its moves", x.moves(), 1);
        check.due("still", x.best(), NONE);
        check.due("told", solve(x, 2), "0");
        check.due("then", x.best(), 0);
    }

    private static void bestBehindADealing() {
        check.sentence(17, "something changed since (a dealing, a move, one taken back, a card put)");
        CardWorkshop x = told();
        x.deal(0, 0);
        check.due("behind a dealing", x.best(), NONE);
        CardWorkshop same = Check.dealt("D11;P!w:w=1;E0;");
        solve(same, 2);
        check.due("before the same dealing", same.best(), 0);
        same.deal(0, 0);
        check.due("behind the same dealing", same.best(), NONE);
        solve(same, 2);
        check.due("told again", same.best(), 0);
        check.noArgument("one that throws", () -> same.deal(0, -1));
        check.due("is none", same.best(), 0);
    }

    private static void bestBehindAMove() {
        check.sentence(17, "a move, one taken back");
        CardWorkshop x = told();
        check.noIndex("one that throws", () -> x.act(2));
        check.due("is none", x.best(), 1);
        x.act(1);
        check.due("behind a move", x.best(), NONE);
        x.undo();
        check.due("though it was taken back", x.best(), NONE);
        CardWorkshop late = Check.dealt("D11;Pw<70:w=w+1;E0;");
        for (int k = 0; k < 60; k++) {
            late.act(0);
        }
        solve(late, 11);
        check.noState("the 61st move", () -> late.act(0));
        check.due("is none", late.best(), 0);
    }

    private static void bestBehindOneTakenBack() {
        check.sentence(17, "one taken back, a card put");
        CardWorkshop x = told();
        check.due("taken back", x.undo(), true);
        check.due("behind it", x.best(), NONE);
        check.due("told again", solve(x, 15), "3");
        check.due("then", x.best(), 1);
        check.due("none is left to take back", x.undo(), false);
        check.due("that changes nothing", x.best(), 1);
    }

    private static void bestBehindACardPut() {
        check.sentence(17, "a card put), or the game was OVER");
        CardWorkshop x = told();
        check.due("no such card", x.put(3, 0), false);
        check.due("no such place", x.put(0, 6), false);
        check.due("both change nothing", x.best(), 1);
        check.due("put", x.put(0, 0), true);
        check.due("behind it", x.best(), NONE);
        check.due("told again", solve(x, 7), "2");
        check.due("then", x.best(), 1);
    }

    private static void bestBehindAnotherGame() {
        check.sentence(17, "something changed since");
        CardWorkshop x = told();
        Check.write(x, "D11;P!w:w=1;E0");
        check.due("a text typed changes nothing", x.best(), 1);
        check.noArgument("no game", x::compile);
        check.due("nor does a compile that throws", x.best(), 1);
        x.wipe();
        check.due("nor does a wipe", x.best(), 1);
        x.moves();
        x.look(6);
        x.move(0, true);
        x.card(2, 0);
        x.seen(0, 2, 0);
        x.counter(0);
        x.code(0, true);
        check.due("nor does what only asks", x.best(), 1);
        Check.write(x, "D11;P!w:w=1;P!w:w=1,+1;E0;");
        x.compile();
        x.deal(0, 0);
        check.due("another game, dealt", x.best(), NONE);
    }

    private static void bestOfOver() {
        check.sentence(17, "or the game was OVER");
        CardWorkshop x = Check.dealt("D11;Pw<1:w=w+1,+4;E0;");
        check.due("one move before the end", solve(x, 2), "4");
        check.due("it is the best", x.best(), 0);
        x.act(0);
        check.due("at the end", solve(x, 2), "4");
        check.due("there is none", x.best(), NONE);
        CardWorkshop byE = Check.dealt("D11;P1:w=1;Ew;");
        check.due("one move before the end by E", solve(byE, 2), "0");
        check.due("it is the best", byE.best(), 0);
        byE.act(0);
        check.due("at the end by E", solve(byE, 2), "0");
        check.due("there is none", byE.best(), NONE);
    }

    private static void bestBehindASolveThatThrows() {
        check.sentence(17, "(one that throws tells none)");
        CardWorkshop x = told();
        check.due("too small a budget", solve(x, 6), FAILS);
        check.due("what was told before it holds", x.best(), 1);
        check.noArgument("budget 0", () -> x.solve(0));
        check.noArgument("budget 2001", () -> x.solve(2001));
        check.due("it still holds", x.best(), 1);
        CardWorkshop never = Check.dealt("D11;Pw<2:w=w+1;Pw<2:w=w+1,+1;E0;");
        check.due("it fails with positions looked at", solve(never, 6), FAILS);
        check.due("none was told", never.best(), NONE);
        check.noArgument("budget 0", () -> never.solve(0));
        check.due("nor now", never.best(), NONE);
        check.due("it tells", solve(never, 7), "2");
        check.due("now one was", never.best(), 1);
        never.act(0);
        check.due("it fails behind a move", solve(never, 1), FAILS);
        check.due("the older one is gone", never.best(), NONE);
    }

    private static void bestIsOfTheLast() {
        check.sentence(17, "that solve() told last");
        CardWorkshop x = told();
        check.due("told again", solve(x, 2000), "2");
        check.due("the same", x.best(), 1);
        x.act(0);
        x.act(0);
        check.due("at the end", solve(x, 1), "0");
        check.due("none", x.best(), NONE);
        x.undo();
        check.due("one before it", solve(x, 3), "1");
        check.due("the second move", x.best(), 1);
    }
}
