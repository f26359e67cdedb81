/** Promises 8 to 11, 14 and 15: each sentence that names an edge of moves, counters and looks, on both sides. */
public final class PlayingEdgesTest {
    private static final Check check = new Check();
    private static final int NONE = CardWorkshop.NONE;
    private static final int[] FAR = {Integer.MIN_VALUE, Integer.MIN_VALUE + 1, Integer.MAX_VALUE - 1, Integer.MAX_VALUE};
    /** Integer.MAX_VALUE, written as an expr. */
    private static final String MOST = "999*999*999*2+999*999*153+999*784+280";

    public static void main(String[] args) {
        movesBeforeADealing();
        movesOfRulesP();
        movesOfRulesM();
        whatIsTrue();
        overByE();
        overWithoutMoves();
        noMovesIfOver();
        cardOfARuleP();
        noSuchMove();
        actNoSuchMove();
        actCounts();
        sixtyMoves();
        cardThatIsNotThere();
        chosenWhereverItIs();
        zonesOfTheSeatThatMoves();
        effectsSeeThoseBefore();
        turnBehindTheMove();
        ranksOfNone();
        wraps();
        oneOrZero();
        undoWithPuts();
        undoOfNone();
        counterOther();
        counterBeforeADealing();
        atFirst();
        lookWithoutAGame();
        lookBeforeADealing();
        lookOther();
        lookLeastAndMost();
        none();
        the512thCall();
        check.end();
    }

    private static void movesBeforeADealing() {
        check.sentence(8, "0 if nothing was dealt");
        CardWorkshop x = new CardWorkshop();
        check.due("without a game", x.moves(), 0);
        Check.write(x, "D11;P1:;P1:;E0;");
        x.compile();
        check.due("with a game alone", x.moves(), 0);
        x.deal(0, 0);
        check.due("dealt", x.moves(), 2);
        Check.write(x, "D11;P1:;E0;");
        x.compile();
        check.due("behind another compile", x.moves(), 0);
        x.deal(0, 0);
        check.due("dealt again", x.moves(), 1);
    }

    private static void movesOfRulesP() {
        check.sentence(8, "P: one, if its guard is true;");
        check.moves("no rule", Check.dealt("D11;E0;"));
        check.moves("one, false", Check.dealt("D11;P0:;E0;"));
        check.moves("one, true", Check.dealt("D11;P1:;E0;"), 0, NONE);
        check.moves("in their order", Check.dealt("D11;P0:;P1:;P0:;P1:;E0;"), 1, NONE, 3, NONE);
        CardWorkshop x = Check.dealt("D13;P#h=2:;E0;");
        check.moves("an empty hand", x);
        Check.put(x, 0, 0, 1);
        check.moves("two cards, but one move", x, 0, NONE);
        Check.put(x, 0, 2);
        check.moves("one card too many", x);
        CardWorkshop most = Check.dealt("D11;P1:;P1:;P1:;P1:;P1:;P1:;P1:;P1:;E0;");
        check.moves("eight", most, 0, -1, 1, -1, 2, -1, 3, -1, 4, -1, 5, -1, 6, -1, 7, -1);
    }

    private static void movesOfRulesM() {
        check.sentence(8, "M: one for each card of the hand of the seat on turn, by rising numbers, for which the guard is true");
        CardWorkshop x = Check.dealt("D16;M1<rc:n;P#h=0:n;E0;");
        check.moves("an empty hand", x, 1, NONE);
        Check.put(x, 1, 5, 4);
        check.moves("the other's hand is full", x, 1, NONE);
        Check.put(x, 0, 1);
        check.moves("a guard that is just false", x);
        Check.put(x, 0, 2);
        check.moves("one that is just true", x, 0, 2);
        Check.put(x, 0, 3, 0);
        check.moves("by rising numbers", x, 0, 2, 0, 3);
        Check.put(x, 0, 2);
        check.moves("wherever they lie in the hand", x, 0, 2, 0, 3);
        x.act(0);
        check.moves("the other seat's", x, 0, 4, 0, 5);
        CardWorkshop most = Check.dealt("D46;M1:;M1:;M1:;M1:;M1:;M1:;M1:;M1:;E0;");
        for (int card = 23; card >= 0; card--) {
            check.due("moves with " + (23 - card) + " cards", most.moves(), 8 * (23 - card));
            most.put(card, 0);
        }
        check.due("moves with all cards", most.moves(), 192);
        for (int i : new int[] {0, 1, 23, 24, 47, 48, 167, 168, 190, 191}) {
            check.due("rule of move " + i, most.move(i, false), i / 24);
            check.due("card of move " + i, most.move(i, true), i % 24);
        }
        check.noIndex("move 192", () -> most.move(192, false));
        check.due("the last one is made", most.act(191), 1);
    }

    private static void whatIsTrue() {
        check.sentence(8, "a number but 0 is true");
        for (String guard : new String[] {"1", "2", "999", "0-1", "0-999", "w", "x", MOST}) {
            CardWorkshop x = Check.dealt("D11;Py=0:y=1,w=0-" + MOST + "-1,x=256*256;Py&(" + guard + "):;E0;");
            x.act(0);
            check.moves("true: " + guard, x, 1, NONE);
        }
        for (String guard : new String[] {"0", "000", "1-1", "z", "x*x"}) {
            CardWorkshop x = Check.dealt("D11;Py=0:y=1,w=0-" + MOST + "-1,x=256*256;Py&(" + guard + "):;E0;");
            x.act(0);
            check.moves("false: " + guard, x);
        }
        check.moves("a guard below 0", Check.dealt("D11;P0-1:;E0;"), 0, NONE);
        check.moves("an end below 0", Check.dealt("D11;P1:;E0-1;"));
        check.moves("an end of 0", Check.dealt("D11;P1:;E1-1;"), 0, NONE);
        check.moves("a guard of 0", Check.dealt("D11;P1-1:;E0;"));
    }

    private static void overByE() {
        check.sentence(15, "The game is OVER if the expr of E is true (the seat on turn being the one that moves), or no move is legal");
        CardWorkshop x = Check.dealt("D13;P1:n;E1<#h|2<#q;");
        check.due("no card", x.look(6), 0);
        x.put(0, 0);
        check.due("one card", x.look(6), 0);
        x.put(1, 0);
        check.due("two cards", x.look(6), 1);
        x.put(0, 1);
        x.put(1, 1);
        check.due("two cards in the other's hand", x.look(6), 0);
        x.act(0);
        check.due("the other seat is on turn", x.look(6), 1);
        x.undo();
        Check.put(x, 4, 0, 1, 2);
        check.due("three cards on its own pile", x.look(6), 0);
        Check.put(x, 5, 0, 1);
        check.due("two on the other's", x.look(6), 0);
        Check.put(x, 5, 2);
        check.due("three on the other's", x.look(6), 1);
    }

    private static void overWithoutMoves() {
        check.sentence(15, "or no move is legal");
        check.due("no rule", Check.dealt("D11;E0;").look(6), 1);
        check.due("a rule P that is false", Check.dealt("D11;P0:;E0;").look(6), 1);
        check.due("a rule P that is true", Check.dealt("D11;P1:;E0;").look(6), 0);
        CardWorkshop x = Check.dealt("D12;Mrc:n;E0;");
        check.due("a rule M, no card", x.look(6), 1);
        x.put(0, 0);
        check.due("a rule M, a card it is false for", x.look(6), 1);
        x.put(1, 1);
        check.due("a card it is true for, in the other's hand", x.look(6), 1);
        x.put(1, 0);
        check.due("a card it is true for", x.look(6), 0);
        x.act(0);
        check.due("none for the other seat", x.look(6), 1);
        check.due("only the last of eight", Check.dealt("D11;P0:;P0:;P0:;P0:;P0:;P0:;P0:;P1:;E0;").look(6), 0);
    }

    private static void noMovesIfOver() {
        check.sentence(8, "MOVES, if that is not true: of each rule in order");
        CardWorkshop x = Check.dealt("D12;P1:w=w+1;M1:;Ew=2;");
        x.put(0, 0);
        check.moves("not over", x, 0, NONE, 1, 0);
        x.act(0);
        check.moves("not over yet", x, 0, NONE, 1, 0);
        x.act(0);
        check.moves("over", x);
        check.due("look", x.look(6), 1);
        check.noIndex("none can be made", () -> x.act(0));
        x.undo();
        check.moves("no longer over", x, 0, NONE, 1, 0);
    }

    private static void cardOfARuleP() {
        check.sentence(9, "its rule, or (with card) its card, NONE for a rule P");
        CardWorkshop x = Check.dealt("D12;P1:;M1:;P1:;E0;");
        x.put(0, 0);
        check.due("rule of the first P", x.move(0, false), 0);
        check.due("card of the first P", x.move(0, true), NONE);
        check.due("rule of M", x.move(1, false), 1);
        check.due("card of M, the first card", x.move(1, true), 0);
        check.due("rule of the last P", x.move(2, false), 2);
        check.due("card of the last P", x.move(2, true), NONE);
    }

    private static void noSuchMove() {
        check.sentence(9, "IndexOutOfBoundsException if there is none such.");
        CardWorkshop none = new CardWorkshop();
        check.noIndex("without a game", () -> none.move(0, false));
        Check.write(none, "D11;P1:;E0;");
        none.compile();
        check.noIndex("nothing was dealt", () -> none.move(0, true));
        none.deal(0, 0);
        check.due("dealt", none.move(0, false), 0);
        CardWorkshop x = Check.dealt("D12;P1:w=1;P1:;Ew;");
        for (boolean card : new boolean[] {false, true}) {
            for (int i : new int[] {-2, -1, 2, 3, FAR[0], FAR[1], FAR[2], FAR[3]}) {
                check.noIndex("move(" + i + ", " + card + ")", () -> x.move(i, card));
            }
            check.due("the first", x.move(0, card), card ? NONE : 0);
            check.due("the last", x.move(1, card), card ? NONE : 1);
        }
        x.act(0);
        check.noIndex("the game is over", () -> x.move(0, false));
    }

    private static void actNoSuchMove() {
        check.sentence(10, "IndexOutOfBoundsException if there is none such; IllegalStateException if 60 were.");
        CardWorkshop none = new CardWorkshop();
        check.noIndex("without a game", () -> none.act(0));
        Check.write(none, "D11;P1:w=1;E0;");
        none.compile();
        check.noIndex("nothing was dealt", () -> none.act(0));
        CardWorkshop x = Check.dealt("D12;P1:x=x+1;P1:w=1;Ew;");
        for (int i : new int[] {-2, -1, 2, 3, FAR[0], FAR[1], FAR[2], FAR[3]}) {
            check.noIndex("act(" + i + ")", () -> x.act(i));
            check.due("no move was made", x.look(7), 0);
            check.due("nothing was counted", x.counter(1), 0);
        }
        check.due("the first", x.act(0), 1);
        check.due("it was the first", x.counter(1), 1);
        check.due("the last", x.act(1), 2);
        check.due("it was the last", x.counter(0), 1);
        check.noIndex("the game is over", () -> x.act(0));
    }

    private static void actCounts() {
        check.sentence(10, "how many moves were made since the dealing (and not taken back)");
        CardWorkshop x = Check.dealt("D12;P1:;E0;");
        check.due("the first", x.act(0), 1);
        check.due("the second", x.act(0), 2);
        x.undo();
        check.due("one was taken back", x.act(0), 2);
        x.undo();
        x.undo();
        check.due("all were taken back", x.act(0), 1);
        check.due("look", x.look(7), 1);
        x.deal(0, 0);
        check.due("look behind a dealing", x.look(7), 0);
        check.due("the first behind a dealing", x.act(0), 1);
        x.put(0, 3);
        check.due("a card put is none", x.act(0), 2);
    }

    private static void sixtyMoves() {
        check.sentence(10, "IllegalStateException if 60 were");
        CardWorkshop x = Check.dealt("D11;P1:w=w+1,n;E0;");
        for (int k = 1; k <= 60; k++) {
            check.due("move " + k, Check.told(() -> x.act(0)), "" + k);
        }
        check.due("move 61", Check.told(() -> x.act(0)), "throws.IllegalStateException");
        check.due("60 were made", x.look(7), 60);
        check.due("the counter stays", x.counter(0), 60);
        check.due("the turn stays", x.look(5), 0);
        check.due("it is not over", x.look(6), 0);
        check.due("the move is still legal", x.moves(), 1);
        check.due("take one back", x.undo(), true);
        check.due("59 were made", x.look(7), 59);
        check.due("move 60 again", Check.told(() -> x.act(0)), "60");
        check.due("move 61 again", Check.told(() -> x.act(0)), "throws.IllegalStateException");
        for (int k = 59; k >= 0; k--) {
            check.due("taken back", x.undo(), true);
            check.due("the counter is " + k, x.counter(0), k);
        }
        check.due("no more", x.undo(), false);
        for (int k = 1; k <= 60; k++) {
            x.act(0);
        }
        x.deal(0, 0);
        check.due("a dealing starts again", Check.told(() -> x.act(0)), "1");
    }

    private static void cardThatIsNotThere() {
        check.sentence(10, "a card that is not there does not go");
        String zones = "hgstpq";
        for (int from = 0; from < 6; from++) {
            for (int to = 0; to < 6; to++) {
                CardWorkshop x = Check.dealt("D12;P1:" + zones.charAt(from) + ">" + zones.charAt(to) + ",w=5;E0;");
                int other = from == 3 ? 2 : 3;
                Check.put(x, other, 0, 1);
                check.due("the move is made", x.act(0), 1);
                check.row("none goes from " + from + " to " + to, x, other, 0, 1);
                check.due("what follows is done", x.counter(0), 5);
                x.undo();
                Check.put(x, from, 0);
                x.act(0);
                check.due("one goes from " + from + " to " + to, x.card(to, x.card(to, -1) - 1), 0);
                check.due("it has left", x.card(from, -1), from == to ? 1 : 0);
            }
        }
        CardWorkshop last = Check.dealt("D12;P1:s>t,s>t,s>t,w=#t;E0;");
        last.act(0);
        check.due("two of three go", last.counter(0), 2);
    }

    private static void chosenWhereverItIs() {
        check.sentence(10, "MOVE of c takes it out of the place where it is");
        for (char zone : "hgstpq".toCharArray()) {
            CardWorkshop x = Check.dealt("D14;M1:c>" + zone + ",s>" + zone + ",c>p,w=rc,x=#" + zone + ";E0;");
            Check.put(x, 0, 1, 2);
            Check.put(x, 2, 0, 3);
            x.act(0);
            check.due("from " + zone + " it went on", x.card(4, x.card(4, -1) - 1), 1);
            check.due("its rank", x.counter(0), 1);
            int all = 0;
            for (int place = 0; place < 6; place++) {
                all += x.card(place, -1);
            }
            check.due("no card is lost or twice there", all, 4);
        }
        CardWorkshop x = Check.dealt("D13;M1:c>t,t>g,c>h;E0;");
        Check.put(x, 0, 0, 1, 2);
        x.act(0);
        check.row("the lowest comes back on top", x, 0, 1, 2, 0);
        check.row("the table is empty", x, 3);
        check.row("the other's hand is empty", x, 1);
    }

    private static void zonesOfTheSeatThatMoves() {
        check.sentence(10, "what is a zone is told by the seat that moves");
        CardWorkshop x = Check.dealt("D16;P1:n,s>h,s>p,+7,w=#h*10+#g;E0;");
        Check.put(x, 2, 0, 1, 2, 3, 4, 5);
        x.act(0);
        check.row("hand 0", x, 0, 5);
        check.row("pile 0", x, 4, 4);
        check.row("hand 1", x, 1);
        check.due("score 0", x.counter(4), 7);
        check.due("score 1", x.counter(5), 0);
        check.due("h and g behind n", x.counter(0), 10);
        x.act(0);
        check.row("hand 1, then", x, 1, 3);
        check.row("pile 1, then", x, 5, 2);
        check.row("hand 0, then", x, 0, 5);
        check.due("score 1, then", x.counter(5), 7);
        check.due("score 0, then", x.counter(4), 7);
        check.due("h and g behind n, then", x.counter(0), 11);
    }

    private static void effectsSeeThoseBefore() {
        check.sentence(10, "the effects are done in order, each seeing what those before it did");
        CardWorkshop x = Check.dealt("D13;P1:w=#s,s>t,x=#s,y=w-x,+y,z=rt,s>t,z=z*10+rt;E0;");
        Check.put(x, 2, 0, 2, 1);
        x.act(0);
        check.due("before", x.counter(0), 3);
        check.due("behind", x.counter(1), 2);
        check.due("of both", x.counter(2), 1);
        check.due("score", x.counter(4), 1);
        check.due("the tops in their order", x.counter(3), 12);
        CardWorkshop y = Check.dealt("D11;P1:w=1,w=w+1,w=w*5;E0;");
        y.act(0);
        check.due("one counter three times", y.counter(0), 10);
    }

    private static void turnBehindTheMove() {
        check.sentence(10, "n (the other seat is on turn behind the move, however often it stands there)");
        String[] effects = {"", "n", "n,n", "n,n,n", "n,w=1,n,n", "w=1", "+1"};
        for (String text : effects) {
            CardWorkshop x = Check.dealt("D11;P1:" + text + ";E0;");
            int change = text.indexOf('n') >= 0 ? 1 : 0;
            check.due("turn at first", x.look(5), 0);
            x.act(0);
            check.due("turn behind " + text, x.look(5), change);
            x.act(0);
            check.due("turn behind two of " + text, x.look(5), 0);
            x.undo();
            check.due("turn when one was taken back", x.look(5), change);
        }
    }

    private static void ranksOfNone() {
        check.sentence(10, "r card, u card (the card's rank, its suit; -1 if there is none)");
        for (int zone = 0; zone < 6; zone++) {
            char name = "hgstpq".charAt(zone);
            CardWorkshop x = Check.dealt("D46;P1:w=r" + name + ",x=u" + name + ",y=r" + name + "<0;E0;");
            int other = zone == 2 ? 3 : 2;
            for (int card = 0; card < 24; card++) {
                x.put(card, other);
            }
            x.act(0);
            check.due("no card: rank in " + name, x.counter(0), -1);
            check.due("no card: suit in " + name, x.counter(1), -1);
            check.due("it is below 0", x.counter(2), 1);
            x.put(0, zone);
            x.act(0);
            check.due("the lowest card: rank in " + name, x.counter(0), 0);
            check.due("the lowest card: suit in " + name, x.counter(1), 0);
            x.put(23, zone);
            x.act(0);
            check.due("the highest card: rank in " + name, x.counter(0), 5);
            check.due("the highest card: suit in " + name, x.counter(1), 3);
        }
        CardWorkshop gone = Check.dealt("D12;P1:s>t,s>t,w=rs,x=us;E0;");
        gone.act(0);
        check.due("none is left: rank", gone.counter(0), -1);
        check.due("none is left: suit", gone.counter(1), -1);
    }

    private static int[] countersOf(String effects) {
        CardWorkshop x = Check.dealt("D11;P1:" + effects + ";E0;");
        x.act(0);
        return new int[] {x.counter(0), x.counter(1), x.counter(2), x.counter(3), x.counter(4)};
    }

    private static void wraps() {
        check.sentence(10, "All sums, differences and products wrap.");
        int[] sums = countersOf("w=" + MOST + ",x=w+1,y=w+w,z=x+x,+w,+1");
        check.due("the greatest", sums[0], Integer.MAX_VALUE);
        check.due("one more", sums[1], Integer.MIN_VALUE);
        check.due("twice the greatest", sums[2], -2);
        check.due("twice the least", sums[3], 0);
        check.due("a score's sum", sums[4], Integer.MIN_VALUE);
        int[] differences = countersOf("w=0-(" + MOST + "),x=w-1,y=x-1,z=0-x,+w,+w,+0-2");
        check.due("one above the least", differences[0], -Integer.MAX_VALUE);
        check.due("the least", differences[1], Integer.MIN_VALUE);
        check.due("one less", differences[2], Integer.MAX_VALUE);
        check.due("the least turned", differences[3], Integer.MIN_VALUE);
        check.due("a score below the least", differences[4], 0);
        int[] products = countersOf("w=463*100+40,x=w*w,w=w+1,y=w*w,z=256*256,z=z*z,+256*256*256*64*2");
        check.due("46340 * 46340", products[1], 2147395600);
        check.due("46341 * 46341", products[2], -2147479015);
        check.due("65536 * 65536", products[3], 0);
        check.due("a score's product", products[4], Integer.MIN_VALUE);
        int[] compared = countersOf("w=" + MOST + ",x=0-w-1,y=x<w,z=w<x,+(x<0)*10+(w<0-1)");
        check.due("the least is less than the greatest", compared[2], 1);
        check.due("not the other way", compared[3], 0);
        check.due("the least is below 0, the greatest is not", compared[4], 10);
    }

    private static void oneOrZero() {
        check.sentence(10, "(AND, OR, NOT, LESS, SAME answer 1 or 0; a number but 0 is true. Both sides are always worked out.)");
        String[] numbers = {"0", "1", "2", "(0-1)", "256*256", "(" + MOST + ")"};
        int[] values = {0, 1, 2, -1, 65536, Integer.MAX_VALUE};
        for (int a = 0; a < numbers.length; a++) {
            for (int b = 0; b < numbers.length; b++) {
                String what = numbers[a] + " and " + numbers[b];
                int[] got = countersOf("w=" + numbers[a] + ",x=" + numbers[b] + ",y=w&x,z=w|x,+!w");
                check.due(what + ": AND", got[2], values[a] != 0 && values[b] != 0 ? 1 : 0);
                check.due(what + ": OR", got[3], values[a] != 0 || values[b] != 0 ? 1 : 0);
                check.due(what + ": NOT", got[4], values[a] == 0 ? 1 : 0);
                got = countersOf("w=" + numbers[a] + ",x=" + numbers[b] + ",y=w<x,z=w=x,+!!w");
                check.due(what + ": LESS", got[2], values[a] < values[b] ? 1 : 0);
                check.due(what + ": SAME", got[3], a == b ? 1 : 0);
                check.due(what + ": NOT twice", got[4], values[a] == 0 ? 0 : 1);
            }
        }
    }

    private static void undoWithPuts() {
        check.sentence(11, "The latest move is taken back, with all that was put since: true");
        CardWorkshop x = Check.dealt("D15;P1:s>t,w=w+1,+3,n;E0;");
        Check.put(x, 2, 0, 1, 2, 3, 4);
        x.put(0, 4);
        x.act(0);
        x.put(1, 5);
        x.put(4, 0);
        x.act(0);
        x.put(2, 1);
        x.put(3, 3);
        check.due("the second", x.undo(), true);
        check.row("stock: put before the second", x, 2, 2, 3);
        check.row("table", x, 3);
        check.row("hand 0", x, 0, 4);
        check.row("hand 1: put since", x, 1);
        check.row("pile 0", x, 4, 0);
        check.row("pile 1", x, 5, 1);
        check.due("counter", x.counter(0), 1);
        check.due("score 1", x.counter(5), 0);
        check.due("turn", x.look(5), 1);
        check.due("moves made", x.look(7), 1);
        x.put(2, 1);
        check.due("the first", x.undo(), true);
        check.row("stock: as before the first", x, 2, 1, 2, 3, 4);
        check.row("table", x, 3);
        check.row("hand 0: put since", x, 0);
        check.row("hand 1: put since", x, 1);
        check.row("pile 0: put before the first", x, 4, 0);
        check.row("pile 1: put since", x, 5);
        check.due("counter", x.counter(0), 0);
        check.due("score 0", x.counter(4), 0);
        check.due("turn", x.look(5), 0);
        check.due("moves made", x.look(7), 0);
    }

    private static void undoOfNone() {
        check.sentence(11, "false if there is none");
        CardWorkshop x = new CardWorkshop();
        check.due("without a game", x.undo(), false);
        Check.write(x, "D12;P1:w=w+1;E0;");
        x.compile();
        check.due("with a game alone", x.undo(), false);
        x.deal(0, 0);
        check.due("just dealt", x.undo(), false);
        x.put(0, 5);
        check.due("cards put, no move", x.undo(), false);
        check.row("what was put stays", x, 5, 0);
        x.act(0);
        check.due("one move", x.undo(), true);
        check.row("what was put before it stays", x, 5, 0);
        check.due("none is left", x.undo(), false);
        x.act(0);
        x.deal(0, 0);
        check.due("behind a dealing", x.undo(), false);
        x.act(0);
        Check.write(x, "D12;P1:w=w+1;E0;");
        x.compile();
        check.due("behind a compile", x.undo(), false);
        check.due("nothing is dealt by it", x.look(4), 0);
    }

    private static void counterOther() {
        check.sentence(14, "IndexOutOfBoundsException for any other k");
        CardWorkshop x = Check.compiled("D11;P1:w=1,x=2,y=3,z=4,+5,n;P1:+6;E0;");
        for (int round = 0; round < 2; round++) {
            for (int k : new int[] {-2, -1, 6, 7, FAR[0], FAR[1], FAR[2], FAR[3]}) {
                check.noIndex("counter(" + k + ")", () -> x.counter(k));
            }
            check.due("counter(0)", x.counter(0), round);
            check.due("counter(3)", x.counter(3), 4 * round);
            check.due("counter(4)", x.counter(4), 5 * round);
            check.due("counter(5)", x.counter(5), 6 * round);
            x.deal(0, 0);
            x.act(0);
            x.act(1);
        }
        CardWorkshop none = new CardWorkshop();
        check.noIndex("without a game: 6", () -> none.counter(6));
        check.noIndex("without a game: -1", () -> none.counter(-1));
        check.due("without a game: 5", none.counter(5), 0);
    }

    private static void counterBeforeADealing() {
        check.sentence(14, "the score of seat k - 4 for 4, 5; 0 if nothing was dealt");
        CardWorkshop x = new CardWorkshop();
        for (int round = 0; round < 3; round++) {
            for (int k = 0; k < 6; k++) {
                check.due("round " + round + ": counter(" + k + ")", x.counter(k), 0);
            }
            if (round == 1) {
                x.deal(0, 0);
                x.act(0);
                x.act(0);
                for (int k = 0; k < 6; k++) {
                    check.due("dealt: counter(" + k + ")", x.counter(k), k < 4 ? 9 - k : 2 + k);
                }
            }
            Check.write(x, "D11;P1:w=9,x=8,y=7,z=6,+6+#h,n,s>g;E0;");
            x.compile();
        }
    }

    private static void atFirst() {
        check.sentence(14, "the counters and scores are 0 at first, the seat on TURN is 0");
        CardWorkshop x = Check.dealt("D11;P1:w=1,+1,n;E0;");
        for (int k = 0; k < 6; k++) {
            check.due("counter(" + k + ")", x.counter(k), 0);
        }
        check.due("turn", x.look(5), 0);
        x.act(0);
        check.due("w, then", x.counter(0), 1);
        check.due("x, then", x.counter(1), 0);
        check.due("score 0, then", x.counter(4), 1);
        check.due("score 1, then", x.counter(5), 0);
        check.due("turn, then", x.look(5), 1);
    }

    private static void lookWithoutAGame() {
        check.sentence(15, "1: instructions (0 without a game)");
        CardWorkshop x = new CardWorkshop();
        check.due("a new object", x.look(1), 0);
        check.due("its cards", x.look(2), 0);
        check.due("its rules", x.look(3), 0);
        Check.write(x, "D46;P1:;E0");
        check.noArgument("no game", x::compile);
        check.due("behind a compile that threw", x.look(1), 0);
        check.due("its cards", x.look(2), 0);
        check.due("its rules", x.look(3), 0);
        Check.write(x, ";");
        x.compile();
        check.due("with a game", x.look(1), 5);
        check.due("its cards", x.look(2), 24);
        check.due("its rules", x.look(3), 1);
        Check.write(x, "D11;E0;");
        check.due("the text alone changes nothing", x.look(1), 5);
        x.compile();
        check.due("the shortest game", x.look(1), 2);
    }

    private static void lookBeforeADealing() {
        check.sentence(15, "(5 and 6 NONE if nothing was dealt.)");
        CardWorkshop x = new CardWorkshop();
        for (int round = 0; round < 3; round++) {
            check.due("round " + round + ": dealt", x.look(4), 0);
            check.due("round " + round + ": turn", x.look(5), NONE);
            check.due("round " + round + ": over", x.look(6), NONE);
            check.due("round " + round + ": moves made", x.look(7), 0);
            if (round == 1) {
                x.deal(0, 0);
                check.due("dealt", x.look(4), 1);
                check.due("turn", x.look(5), 0);
                check.due("over", x.look(6), 0);
                x.act(0);
                check.due("turn, then", x.look(5), 1);
                check.due("over, then", x.look(6), 1);
                check.due("moves made, then", x.look(7), 1);
            }
            Check.write(x, "D11;P!w:w=1,n;E0;");
            x.compile();
        }
    }

    private static void lookOther() {
        check.sentence(15, "NONE for any other which");
        CardWorkshop x = new CardWorkshop();
        for (int round = 0; round < 3; round++) {
            for (int which : new int[] {-2, -1, 8, 9, 16, FAR[0], FAR[1], FAR[2], FAR[3]}) {
                check.due("round " + round + ": look(" + which + ")", x.look(which), NONE);
            }
            check.due("round " + round + ": look(0)", x.look(0), 0);
            check.due("round " + round + ": look(7)", x.look(7), 0);
            if (round == 0) {
                Check.write(x, "D11;P1:;E0;");
                x.compile();
            } else {
                x.deal(0, 0);
            }
        }
    }

    private static void lookLeastAndMost() {
        check.sentence(15, "which 0: characters in the text, 1: instructions (0 without a game), 2: cards in the deck, 3: rules, "
                + "4: 1 if something was dealt, 5: the seat on TURN, 6: 1 if the game is OVER, 7: moves made.");
        CardWorkshop x = new CardWorkshop();
        int[] first = {0, 0, 0, 0, 0, NONE, NONE, 0};
        for (int which = 0; which < 8; which++) {
            check.due("at first: look(" + which + ")", x.look(which), first[which]);
        }
        String last = "M" + "1+".repeat(34) + "1:n;";
        Check.write(x, "D46;" + "P!!w+1:n,w=w+1;".repeat(7) + last + "Ew=60;");
        check.due("the longest code", x.compile(), 160);
        Check.write(x, "1".repeat(240));
        x.deal(0, 0);
        for (int k = 0; k < 59; k++) {
            x.act(0);
        }
        int[] then = {240, 160, 24, 8, 1, 1, 0, 59};
        for (int which = 0; which < 8; which++) {
            check.due("then: look(" + which + ")", x.look(which), then[which]);
        }
        x.act(0);
        int[] most = {240, 160, 24, 8, 1, 0, 1, 60};
        for (int which = 0; which < 8; which++) {
            check.due("behind 60 moves: look(" + which + ")", x.look(which), most[which]);
        }
    }

    private static void none() {
        check.sentence(9, "`NONE = -1`: There is none.");
        check.due("NONE", CardWorkshop.NONE, -1);
        CardWorkshop x = Check.dealt("D11;P1:;E0;");
        check.due("no card", x.move(0, true), -1);
        check.due("a card that is there", x.card(2, 0), 0);
        check.due("one that is not", x.card(2, 1), -1);
    }

    private static void the512thCall() {
        check.sentence(10, "An object is used for at most 512 calls after it has been made");
        CardWorkshop x = Check.dealt("D12;P1:w=w+1,n;E0;");
        int calls = 3 + 1 + 1;
        for (; calls < 511; calls += 2) {
            check.due("call " + calls, x.act(0), 1);
            check.due("call " + (calls + 1), x.undo(), true);
        }
        check.due("calls made", calls, 511);
        check.due("call 512", x.act(0), 1);
    }
}
