/** Promises 16 and 17: solve, best. */
public final class SolveTest {
    private static final Check check = new Check();
    private static final int NONE = CardWorkshop.NONE;

    public static void main(String[] args) {
        over();
        greatestAndLeast();
        budget();
        depth();
        solveThrows();
        wraps();
        changesNothing();
        bestIsForgotten();
        bestIsKept();
        check.end();
    }

    private static void over() {
        CardWorkshop x = Check.dealt("D11;Pw=0:w=1,+7,n;Px=0:x=1,+9;E2=w+x;");
        x.act(0);
        x.act(0);
        check.due("over", x.look(6), 1);
        check.due("seat 0's score less seat 1's", x.solve(1), -2);
        check.due("no best move", x.best(), NONE);
    }

    private static void greatestAndLeast() {
        CardWorkshop x = Check.dealt("D15;M1:c>t,+rc,n,w=1;Ew;");
        Check.put(x, 0, 2, 4, 1);
        Check.put(x, 1, 3, 0);
        check.due("seat 0 takes the greatest", x.solve(4), 4);
        check.due("it is move 2", x.best(), 2);
        CardWorkshop y = Check.dealt("D15;Pw=0:n,w=1;Mw=1:c>t,+rc,w=2;Ew=2;");
        Check.put(y, 1, 2, 4, 1);
        y.act(0);
        check.due("seat 1 takes the least", y.solve(4), -4);
        check.due("it is move 2", y.best(), 2);
        CardWorkshop z = Check.dealt("D15;Pw=0:n,w=1,x=1;Pw=0:n,w=1,x=5;Pw=1:w=2,+x;Pw=1:w=2,+x*2;Ew=2;");
        check.due("the least of the greatest", z.solve(7), -2);
        check.due("the first move", z.best(), 0);
        CardWorkshop ties = Check.dealt("D15;P!w:w=1,+1;P!w:w=1,+2;P!w:w=1,+2;E0;");
        check.due("a tie", ties.solve(4), 2);
        check.due("the first of the tie", ties.best(), 1);
        CardWorkshop other = Check.dealt("D15;Px=0:x=1,n;Px=1&!w:w=1,+1;Px=1&!w:w=1,+2;Px=1&!w:w=1,+2;E0;");
        other.act(0);
        check.due("a tie of seat 1", other.solve(4), -2);
        check.due("the first of the tie", other.best(), 1);
        CardWorkshop below = Check.dealt("D15;P!w:w=1,+0-5;P!w:w=1,+0-3;P!w:w=1,+0-3;E0;");
        check.due("all below 0", below.solve(2000), -3);
        check.due("the greatest of them", below.best(), 1);
    }

    private static void budget() {
        CardWorkshop x = Check.dealt("D11;Pw<2:w=w+1;Pw<2:w=w+1;Pw<2:w=w+1;E0;");
        check.due("1 + 3 + 9 positions, each way counts", x.solve(13), 0);
        check.unsupported("one fewer", () -> x.solve(12));
        check.unsupported("the first one alone", () -> x.solve(1));
        check.due("the greatest budget", x.solve(2000), 0);
        CardWorkshop most = Check.dealt("D11;Pw<9:w=w+1;Pw<9:w=w+1;E0;");
        check.due("1023 positions", most.solve(1023), 0);
        check.unsupported("1022 are too few", () -> most.solve(1022));
        CardWorkshop more = Check.dealt("D11;Pw<10:w=w+1;Pw<10:w=w+1;E0;");
        check.unsupported("2047 positions", () -> more.solve(2000));
    }

    private static void depth() {
        CardWorkshop x = Check.dealt("D11;Pw<10:w=w+1,+1;E0;");
        check.due("10 moves deep", x.solve(11), 10);
        CardWorkshop ended = Check.dealt("D11;P1:w=w+1,+1;Ew=10;");
        check.due("10 moves deep, and over there", ended.solve(2000), 10);
        CardWorkshop deeper = Check.dealt("D11;Pw<11:w=w+1,+1;E0;");
        check.unsupported("11 moves deep", () -> deeper.solve(2000));
        deeper.act(0);
        check.due("10 again", deeper.solve(11), 11);
        CardWorkshop endless = Check.dealt("D11;P1:;E0;");
        check.unsupported("without an end", () -> endless.solve(2000));
    }

    private static void solveThrows() {
        CardWorkshop x = Check.compiled("D11;P!w:w=1;E0;");
        check.noState("nothing was dealt", () -> x.solve(5));
        check.noState("nothing was dealt, and a wrong budget", () -> x.solve(0));
        x.deal(0, 0);
        for (int budget : new int[] {0, -1, 2001, Integer.MIN_VALUE, Integer.MAX_VALUE}) {
            check.noArgument("solve(" + budget + ")", () -> x.solve(budget));
        }
        check.due("none has told a value", x.best(), NONE);
        check.unsupported("too small", () -> x.solve(1));
        check.due("still none", x.best(), NONE);
    }

    private static void wraps() {
        String huge = "999*999*999*2";
        CardWorkshop x = Check.dealt("D11;P!w:w=1,+" + huge + ",n;Pw=1:w=2,+0-" + huge + ";E0;");
        int score = 999 * 999 * 999 * 2;
        check.due("the difference wraps", x.solve(3), score - (0 - score));
    }

    private static void changesNothing() {
        CardWorkshop x = Check.dealt("D14;M1:c>t,+rc,n,w=w+1;E0;");
        Check.put(x, 0, 3, 0);
        Check.put(x, 1, 2, 1);
        check.due("solve", x.solve(2000), 0);
        check.unsupported("too small", () -> x.solve(3));
        check.row("hand 0", x, 0, 3, 0);
        check.row("hand 1", x, 1, 2, 1);
        check.row("table", x, 3);
        check.due("counter", x.counter(0), 0);
        check.due("score", x.counter(4), 0);
        check.due("turn", x.look(5), 0);
        check.due("moves made", x.look(7), 0);
        check.moves("moves", x, 0, 0, 0, 3);
    }

    private static CardWorkshop told() {
        CardWorkshop x = Check.dealt("D12;Pw<2:w=w+1,+1;Pw<2:w=w+1,+2;E0;");
        x.act(0);
        check.due("solve", x.solve(2000), 3);
        check.due("best", x.best(), 1);
        return x;
    }

    private static void bestIsForgotten() {
        CardWorkshop dealt = told();
        dealt.deal(0, 0);
        check.due("behind a dealing", dealt.best(), NONE);
        CardWorkshop acted = told();
        acted.act(0);
        check.due("behind a move", acted.best(), NONE);
        acted.undo();
        check.due("though it was taken back", acted.best(), NONE);
        CardWorkshop undone = told();
        undone.undo();
        check.due("behind one taken back", undone.best(), NONE);
        CardWorkshop put = told();
        put.put(put.card(2, 1), 2);
        check.due("behind a card put where it was", put.best(), NONE);
        CardWorkshop compiled = told();
        Check.write(compiled, "D11;E0;");
        compiled.compile();
        check.due("behind another game", compiled.best(), NONE);
        CardWorkshop over = told();
        over.act(0);
        over.solve(1);
        check.due("the game is over", over.best(), NONE);
    }

    private static void bestIsKept() {
        CardWorkshop x = told();
        check.unsupported("a solve that fails", () -> x.solve(1));
        check.noArgument("a solve with a wrong budget", () -> x.solve(0));
        check.noIndex("a move that is none", () -> x.act(9));
        check.noArgument("a dealing that is none", () -> x.deal(0, -1));
        check.due("a card that is none", x.put(2, 0), false);
        Check.write(x, "D11");
        check.noArgument("a text that is no game", x::compile);
        x.wipe();
        x.moves();
        x.look(6);
        check.due("best", x.best(), 1);
        CardWorkshop first = Check.dealt("D12;P!w:w=1;E0;");
        first.solve(2);
        check.due("no move to take back", first.undo(), false);
        check.due("best", first.best(), 0);
    }
}
