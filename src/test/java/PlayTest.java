/** Promises 8, 9, 10, 11, 14 and 15: moves, move, act, undo, counter, look. */
public final class PlayTest {
    private static final Check check = new Check();

    public static void main(String[] args) {
        moves();
        movesWhenOver();
        values();
        ranksAndSuits();
        zones();
        chosenCard();
        effectsInOrder();
        turn();
        actThrows();
        undo();
        counter();
        look();
        check.end();
    }

    private static void moves() {
        CardWorkshop x = Check.dealt("D16;P#h=0:n;M2<rc:c>t;P1:;M1:n;E0;");
        check.moves("an empty hand", x, 0, -1, 2, -1);
        Check.put(x, 0, 5, 1, 3);
        Check.put(x, 1, 4, 0);
        check.moves("by rising numbers", x, 1, 3, 1, 5, 2, -1, 3, 1, 3, 3, 3, 5);
        x.act(4);
        check.moves("the other seat's hand", x, 1, 4, 2, -1, 3, 0, 3, 4);
        check.noIndex("move far off", () -> x.move(Integer.MAX_VALUE, true));
        check.noIndex("move far below", () -> x.move(Integer.MIN_VALUE, false));
        check.due("nothing was dealt", Check.compiled("D11;P1:;E0;").moves(), 0);
        check.noIndex("nothing was dealt", () -> Check.compiled("D11;P1:;E0;").move(0, false));
        CardWorkshop most = Check.dealt("D46;M1:;M1:;M1:;M1:;M1:;M1:;M1:;M1:;E0;");
        for (int card = 0; card < 24; card++) {
            most.put(card, 0);
        }
        check.due("as many as can be", most.moves(), 192);
        check.due("the last one's rule", most.move(191, false), 7);
        check.due("the last one's card", most.move(191, true), 23);
    }

    private static void movesWhenOver() {
        CardWorkshop x = Check.dealt("D12;P1:w=w+1;E#h=1|#q=1;");
        check.due("not over", x.look(6), 0);
        x.put(0, 1);
        check.due("the other's hand is none of E's h", x.look(6), 0);
        x.put(0, 0);
        check.due("over by E", x.look(6), 1);
        check.moves("no moves then", x);
        check.noIndex("no move can be made", () -> x.act(0));
        x.put(0, 5);
        check.due("over by E: the other's pile", x.look(6), 1);
        x.put(0, 4);
        check.due("no longer over", x.look(6), 0);
        CardWorkshop none = Check.dealt("D12;M1:;P0:;E0;");
        check.due("over, as no move is legal", none.look(6), 1);
        CardWorkshop turned = Check.dealt("D12;P1:n;E#h;");
        turned.put(0, 1);
        check.due("not over for seat 0", turned.look(6), 0);
        turned.act(0);
        check.due("over for seat 1", turned.look(6), 1);
    }

    /** What an expr is worth, told by a counter that it is written to. */
    private static int worth(String expr) {
        CardWorkshop x = Check.dealt("D24;P1:x=3,y=0-7,w=" + expr + ";E0;");
        Check.put(x, 0, 1);
        Check.put(x, 3, 2, 6);
        Check.put(x, 5, 7, 4, 5);
        x.act(0);
        return x.counter(0);
    }

    private static void values() {
        check.due("sum", worth("1+2+x"), 6);
        check.due("difference", worth("1-2-3"), -4);
        check.due("product", worth("2*x*y"), -42);
        check.due("product before sum", worth("2+3*4-5"), 9);
        check.due("brackets", worth("(2+3)*(4-5)"), -5);
        check.due("less", worth("y<x"), 1);
        check.due("not less", worth("x<x"), 0);
        check.due("same", worth("x=3"), 1);
        check.due("not the same", worth("x=y"), 0);
        check.due("and of numbers", worth("2&4"), 1);
        check.due("and with 0", worth("2&0"), 0);
        check.due("and of 0 and another", worth("0&y"), 0);
        check.due("or of numbers", worth("8|4"), 1);
        check.due("or of 0 and another", worth("0|y"), 1);
        check.due("or of 0", worth("0|z"), 0);
        check.due("not a number", worth("!y"), 0);
        check.due("not 0", worth("!z"), 1);
        check.due("twice not", worth("!!y"), 1);
        check.due("not binds closest", worth("!0+1"), 2);
        check.due("or after and", worth("1|0&0"), 1);
        check.due("deep brackets on the right", worth("1+(1+(1+(1+(1+1*2))))"), 7);
        check.due("counts", worth("#h+10*#g+100*#s+100*10*#t+100*100*#p+#q*999"), 1 + 200 + 2000 + 2997);
        int wrapped = 999 * 999 * 999 * 999;
        check.due("a product wraps", worth("999*999*999*999"), wrapped);
        check.due("a sum wraps", worth("999*999*999*2+999*999*999"), 999 * 999 * 999 * 3);
        check.due("a difference wraps", worth("0-999*999*999*2-999*999*999"), -999 * 999 * 999 * 3);
    }

    private static void ranksAndSuits() {
        check.due("rank of a hand's top", worth("rh"), 1);
        check.due("suit of a hand's top", worth("uh"), 0);
        check.due("rank of the table's top", worth("rt"), 2);
        check.due("suit of the table's top", worth("ut"), 1);
        check.due("rank of the other's pile", worth("rq"), 1);
        check.due("suit of the other's pile", worth("uq"), 1);
        check.due("rank of none", worth("rg"), -1);
        check.due("suit of none", worth("up"), -1);
        CardWorkshop suits = Check.dealt("D41;P1:s>t,w=rt,x=ut;E0;");
        Check.put(suits, 2, 3);
        suits.act(0);
        check.due("the only rank", suits.counter(0), 0);
        check.due("the suit of a card with the only rank", suits.counter(1), 3);
        CardWorkshop x = Check.dealt("D34;M1:w=rc,x=uc;E0;");
        for (int card = 0; card < 12; card++) {
            x.put(card, 0);
        }
        for (int card = 0; card < 12; card++) {
            x.act(card);
            check.due("rank of card " + card, x.counter(0), card % 4);
            check.due("suit of card " + card, x.counter(1), card / 4);
        }
    }

    private static void zones() {
        CardWorkshop x = Check.dealt("D16;Pw=0:s>h,s>g,s>t,s>p,s>q,w=1,n;P1:s>h,h>g,g>q,t>p,p>h,q>s;E0;");
        Check.put(x, 2, 0, 1, 2, 3, 4, 5);
        x.act(0);
        int[] first = {5, 4, 0, 3, 2, 1};
        for (int place = 0; place < 6; place++) {
            check.row("seat 0 moved", x, place, first[place]);
        }
        x.act(0);
        check.row("hand 0", x, 0, 5);
        check.row("hand 1", x, 1, 4, 3);
        check.row("stock", x, 2, 0);
        check.row("table", x, 3);
        check.row("pile 0", x, 4, 2);
        check.row("pile 1", x, 5, 1);
        x.undo();
        x.put(0, 3);
        x.act(0);
        check.row("an empty stock gives none", x, 1, 0);
        check.row("what was 4 went on", x, 2, 4);
        CardWorkshop second = Check.dealt("D16;P!w:n,w=1;Pw:w=rh+10*rg,x=rp+10*rq,y=rs+10*rt;E0;");
        for (int place = 0; place < 6; place++) {
            second.put(place, place);
        }
        second.act(0);
        second.act(0);
        check.due("hands as seat 1 names them", second.counter(0), 1);
        check.due("piles as seat 1 names them", second.counter(1), 45);
        check.due("stock and table are the same for it", second.counter(2), 32);
        CardWorkshop same = Check.dealt("D13;P1:s>s;E0;");
        Check.put(same, 2, 2, 0, 1);
        same.act(0);
        check.row("to the same place", same, 2, 2, 0, 1);
    }

    private static void chosenCard() {
        CardWorkshop x = Check.dealt("D14;M1:c>t,t>p,w=rc,c>q,c>h;E0;");
        Check.put(x, 0, 0, 1, 2);
        x.put(3, 3);
        x.act(1);
        check.row("the chosen card comes back on top", x, 0, 0, 2, 1);
        check.row("table", x, 3, 3);
        check.row("pile 0", x, 4);
        check.row("pile 1", x, 5);
        check.due("its rank is known wherever it is", x.counter(0), 1);
    }

    private static void effectsInOrder() {
        CardWorkshop x = Check.dealt("D13;P1:w=5,x=w+1,w=x*2,+w,+#t,s>t,+#t*100;E0;");
        check.due("act", x.act(0), 1);
        check.due("w", x.counter(0), 12);
        check.due("x", x.counter(1), 6);
        check.due("score", x.counter(4), 112);
        check.due("the other's score", x.counter(5), 0);
    }

    private static void turn() {
        CardWorkshop x = Check.dealt("D12;P1:n,+1,s>h,n,n;P1:+1;E0;");
        x.act(0);
        check.due("turn", x.look(5), 1);
        check.due("score of the seat that moved", x.counter(4), 1);
        check.due("its hand", x.card(0, -1), 1);
        x.act(1);
        check.due("no n, no change", x.look(5), 1);
        check.due("score of seat 1", x.counter(5), 1);
        x.act(0);
        check.due("turn again", x.look(5), 0);
        check.due("hand of seat 1", x.card(1, -1), 1);
        check.due("score of seat 1 again", x.counter(5), 2);
    }

    private static void actThrows() {
        CardWorkshop x = Check.dealt("D12;P1:w=w+1,n;E0;");
        for (int i : new int[] {-1, 1, Integer.MIN_VALUE, Integer.MAX_VALUE}) {
            check.noIndex("act(" + i + ")", () -> x.act(i));
        }
        check.due("no move was made", x.look(7), 0);
        for (int k = 1; k <= 60; k++) {
            check.due("act", x.act(0), k);
        }
        check.noState("move 61", () -> x.act(0));
        check.noIndex("none such, and too many", () -> x.act(1));
        check.due("60 moves made", x.look(7), 60);
        check.due("the counter stays", x.counter(0), 60);
        check.due("the move is still listed", x.moves(), 1);
        check.due("undo", x.undo(), true);
        check.due("one more again", x.act(0), 60);
        for (int k = 59; k >= 0; k--) {
            check.due("undo", x.undo(), true);
            check.due("the counter", x.counter(0), k);
            check.due("the turn", x.look(5), k % 2);
        }
        check.due("none is left", x.undo(), false);
    }

    private static void undo() {
        CardWorkshop x = Check.dealt("D15;M1:c>t,w=w+7,+3,n;E0;");
        Check.put(x, 2, 4, 3);
        Check.put(x, 0, 2, 0, 1);
        x.act(1);
        x.put(3, 1);
        x.put(1, 5);
        x.put(2, 2);
        x.act(0);
        x.put(0, 0);
        check.due("the second is taken back", x.undo(), true);
        check.row("what was put before it stays", x, 1, 3);
        check.row("pile", x, 5, 1);
        check.row("stock", x, 2, 4, 2);
        check.row("hand", x, 0, 0);
        check.due("turn", x.look(5), 1);
        check.due("score 1", x.counter(5), 0);
        check.due("the first is taken back", x.undo(), true);
        check.row("the hand in its order", x, 0, 2, 0, 1);
        check.row("the stock in its order", x, 2, 4, 3);
        check.row("the table", x, 3);
        check.row("the pile", x, 5);
        check.due("counter", x.counter(0), 0);
        check.due("score 0", x.counter(4), 0);
        check.due("turn", x.look(5), 0);
        check.due("moves made", x.look(7), 0);
        x.put(4, 4);
        check.due("none to take back", x.undo(), false);
        check.row("what was put stays", x, 4, 4);
    }

    private static void counter() {
        CardWorkshop x = Check.compiled("D11;P1:w=1,x=2,y=3,z=4,+5,n;P1:+6;E0;");
        for (int k : new int[] {-1, 6, Integer.MIN_VALUE, Integer.MAX_VALUE}) {
            check.noIndex("nothing was dealt: counter(" + k + ")", () -> x.counter(k));
        }
        check.due("nothing was dealt", x.counter(3), 0);
        x.deal(0, 0);
        x.act(0);
        x.act(1);
        for (int k = 0; k < 6; k++) {
            check.due("counter(" + k + ")", x.counter(k), k + 1);
        }
        check.noIndex("counter(-1)", () -> x.counter(-1));
        check.noIndex("counter(6)", () -> x.counter(6));
        Check.write(x, "D11;E0;");
        x.compile();
        check.due("nothing is dealt again", x.counter(0), 0);
        check.due("nothing is dealt again: score", x.counter(4), 0);
    }

    private static void look() {
        CardWorkshop x = Check.compiled("D34;P1:n;P0:;E0;");
        Check.write(x, "abc");
        int[] before = {3, 9, 12, 2, 0, -1, -1, 0};
        for (int which = 0; which < 8; which++) {
            check.due("before the dealing: look(" + which + ")", x.look(which), before[which]);
        }
        x.deal(0, 2);
        x.act(0);
        int[] behind = {3, 9, 12, 2, 1, 1, 0, 1};
        for (int which = 0; which < 8; which++) {
            check.due("behind a move: look(" + which + ")", x.look(which), behind[which]);
        }
        for (int which : new int[] {-1, 8, Integer.MIN_VALUE, Integer.MAX_VALUE}) {
            check.due("look(" + which + ")", x.look(which), CardWorkshop.NONE);
        }
    }
}
