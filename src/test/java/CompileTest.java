/** Promises 4 and 5: compile, code. */
public final class CompileTest {
    private static final Check check = new Check();

    public static void main(String[] args) {
        operands();
        precedence();
        effects();
        readsGames();
        refusesOthers();
        tooLong();
        replacesTheGame();
        throwingChangesNothing();
        check.end();
    }

    private static void operands() {
        check.code("numbers", Check.compiled("D11;E0+10+999+007;"),
                0, 0, 0, 10, 5, 0, 0, 999, 5, 0, 0, 7, 5, 0, 17, 0);
        check.code("counters", Check.compiled("D11;Ew+x+y+z;"),
                1, 0, 1, 1, 5, 0, 1, 2, 5, 0, 1, 3, 5, 0, 17, 0);
        check.code("counts", Check.compiled("D11;E#h*#g*#s*#t*#p*#q;"),
                2, 0, 2, 1, 7, 0, 2, 2, 7, 0, 2, 3, 7, 0, 2, 4, 7, 0, 2, 5, 7, 0, 17, 0);
        check.code("ranks and suits", Check.compiled("D11;Mrh-ug-rs-ut-rp-uq-rc-uc:;E0;"),
                3, 0, 4, 1, 6, 0, 3, 2, 6, 0, 4, 3, 6, 0, 3, 4, 6, 0, 4, 5, 6, 0, 3, 6, 6, 0, 4, 6, 6, 0,
                17, 0, 17, 0, 0, 0, 17, 0);
    }

    private static void precedence() {
        check.code("| & < + *", Check.compiled("D11;E1|2&3<4+5*6;"),
                0, 1, 0, 2, 0, 3, 0, 4, 0, 5, 0, 6, 7, 0, 5, 0, 8, 0, 10, 0, 11, 0, 17, 0);
        check.code("* + = & |", Check.compiled("D11;E1*2+3=4&5|6;"),
                0, 1, 0, 2, 7, 0, 0, 3, 5, 0, 0, 4, 9, 0, 0, 5, 10, 0, 0, 6, 11, 0, 17, 0);
        check.code("from left to right", Check.compiled("D11;E1-2+3-4;"),
                0, 1, 0, 2, 6, 0, 0, 3, 5, 0, 0, 4, 6, 0, 17, 0);
        check.code("brackets", Check.compiled("D11;E1-(2-3)*(4|5);"),
                0, 1, 0, 2, 0, 3, 6, 0, 0, 4, 0, 5, 11, 0, 7, 0, 6, 0, 17, 0);
        check.code("! binds closest", Check.compiled("D11;E!!w*!(1=2)=3;"),
                1, 0, 12, 0, 12, 0, 0, 1, 0, 2, 9, 0, 12, 0, 7, 0, 0, 3, 9, 0, 17, 0);
    }

    private static void effects() {
        check.code("effects of M", Check.compiled("D11;M1:c>h,c>q,h>g,q>p,n,n,+uc-1,z=rc=2;E0;"),
                0, 1, 17, 0, 13, 48, 13, 53, 13, 1, 13, 44, 16, 0, 16, 0, 4, 6, 0, 1, 6, 0, 15, 0,
                3, 6, 0, 2, 9, 0, 14, 3, 17, 0, 0, 0, 17, 0);
        check.code("two rules", Check.compiled("D11;P1:w=x;Py:;E2;"),
                0, 1, 17, 0, 1, 1, 14, 0, 17, 0, 1, 2, 17, 0, 17, 0, 0, 2, 17, 0);
    }

    private static void readsGames() {
        String[] texts = {
            "D11;E0;", "D46;E0;", "D11;P1:;P1:;P1:;P1:;P1:;P1:;P1:;M1:;E0;", "D11;E((((w))));",
            "D11;E(((w)))+((((w)=1)&1)|1);", "D11;E!!!!(!!!!(!!!!(!!!!(!!!!0))));", "D11;E(1<2)<3;",
            "D11;E1<2&3<4;", "D11;P1:w=1=2;E0;",
            "D11;P1|0:;E0;", "D11;P((((1)))):;E0;", "D11;P1:+1|0;E0;", "D11;P1:+((((1))));E0;", "D11;P1:w=((((1|0))));E0;", "D11;P1:+(1);E0;", "D11;P1:s>s;E0;", "D11;E000;"
        };
        for (String text : texts) {
            CardWorkshop x = Check.written(text);
            int count = x.compile();
            check.due(text + ": instructions", x.look(1), count);
            check.due(text + ": ends with END", x.code(count - 1, false), 17);
            check.due(text + ": the text is empty", x.look(0), 0);
        }
        check.due("no rules", Check.compiled("D11;E0;").look(3), 0);
        check.due("eight rules", Check.compiled(texts[2]).look(3), 8);
        check.due("one card", Check.compiled(texts[0]).look(2), 1);
        check.due("24 cards", Check.compiled(texts[1]).look(2), 24);
    }

    private static void refusesOthers() {
        String[] texts = {
            "D", "D1", "D11", "D11;", "D11;E", "D11;E0", "D11;E;", "E0;", "d11;E0;", "D01;E0;", "D10;E0;", "D51;E0;",
            "D17;E0;", "D111;E0;", "D11E0;", "D11;E0;;", "D11;E0;E0;", "D11;E0;P1:;", "D11;D11;E0;",
            "D11;P1:;P1:;P1:;P1:;P1:;P1:;P1:;P1:;P1:;E0;", "D11;X1:;E0;", "D11;P:;E0;", "D11;P1;E0;", "D11;P1:E0;",
            "D11;P1:,;E0;", "D11;P1:n,;E0;", "D11;P1:,n;E0;", "D11;P1:nn;E0;", "D11;P1:n,,n;E0;", "D11;P1:1;E0;",
            "D11;P1:w;E0;", "D11;P1:w=;E0;", "D11;P1:w<1;E0;", "D11;P1:v=1;E0;", "D11;P1:+;E0;", "D11;P1:-1;E0;",
            "D11;P1:s;E0;", "D11;P1:s>;E0;", "D11;P1:s>w;E0;", "D11;P1:c>t;E0;", "D11;M1:c>c;E0;", "D11;M1:s>c;E0;",
            "D11;P1:rs>t;E0;", "D11;Prc:;E0;", "D11;P1:+uc;E0;", "D11;Erc;", "D11;M1:;Euc;", "D11;M1:;Prc:;E0;",
            "D11;Mc:;E0;", "D11;M#c:;E0;", "D11;E#;", "D11;E#w;", "D11;Er;", "D11;Er1;", "D11;Eh;", "D11;E1234;",
            "D11;E0000;", "D11;E1 ;", "D11;E1<2<3;", "D11;E1=2=3;", "D11;E1=2<3;", "D11;E1>2;", "D11;E1|;", "D11;E|1;",
            "D11;E1&&1;", "D11;E1+;", "D11;E+1;", "D11;E-1;", "D11;E1--1;", "D11;E1*;", "D11;E1**1;", "D11;E!;",
            "D11;E1!;", "D11;E!!!!!0;", "D11;E(!!!!!0);", "D11;E();", "D11;E(1;", "D11;E1);", "D11;E(((((1)))));",
            "D11;E1+(2*(3-(4<(5=(6)))));", "D11;Eww;", "D11;E1w;", "D11;EW;", "D11;E(1)(1);", "D11;Ec;"
        };
        for (String text : texts) {
            CardWorkshop x = Check.written(text);
            int length = x.look(0);
            check.noArgument(text, x::compile);
            check.due(text + " stays", x.look(0), length);
            check.due(text + " is no game", x.look(1), 0);
        }
    }

    /** A game of just as many instructions, written with two characters for two of them. */
    private static String gameOf(int instructions) {
        StringBuilder text = new StringBuilder(instructions % 2 == 0 ? "D11;Ew" : "D11;E!w");
        int written = instructions % 2 == 0 ? 2 : 3;
        for (; written < instructions; written += 2) {
            text.append("+w");
        }
        return text.append(';').toString();
    }

    private static void tooLong() {
        check.due("159 instructions", Check.written(gameOf(159)).compile(), 159);
        check.due("160 instructions", Check.written(gameOf(160)).compile(), 160);
        for (int instructions = 161; instructions < 235; instructions++) {
            CardWorkshop x = Check.written(gameOf(instructions));
            int length = x.look(0);
            check.unsupported(instructions + " instructions", x::compile);
            check.due("the text stays", x.look(0), length);
            check.due("there is no game", x.look(1), 0);
        }
        String text = gameOf(230);
        check.noArgument("too long, but no game", Check.written(text + ";")::compile);
        check.noArgument("too long, but not ended", Check.written(text.substring(0, text.length() - 1))::compile);
        CardWorkshop rules = Check.written("D11;P1+1+1+1+1+1+1+1+1+1+1+1+1+1+1+1+1+1+1+1+1+1+1+1+1+1+1+1+1+1+1+1+1+1+1+1+1+1+1"
                + "+1+1+1+1+1+1+1+1+1+1+1+1+1+1+1+1+1+1+1+1+1+1+1+1+1+1+1+1+1+1+1+1+1+1+1+1+1+1+1+1+1:n,n;P1:;E0;");
        check.unsupported("too long before the last rule", rules::compile);
    }

    private static void replacesTheGame() {
        CardWorkshop x = Check.compiled("D23;P1:;M1:;E0;");
        x.deal(1, 1);
        x.act(0);
        Check.write(x, "D11;E1;");
        check.due("compile", x.compile(), 2);
        int[] looks = {0, 2, 1, 0, 0, -1, -1, 0};
        for (int which = 0; which < looks.length; which++) {
            check.due("look(" + which + ")", x.look(which), looks[which]);
        }
        check.due("nothing is dealt: moves", x.moves(), 0);
        check.due("nothing is dealt: undo", x.undo(), false);
        check.due("nothing is dealt: card", x.card(2, -1), -1);
        check.due("nothing is dealt: put", x.put(0, 0), false);
        check.noState("nothing is dealt: solve", () -> x.solve(1));
        check.code("new code", x, 0, 1, 17, 0);
    }

    private static void throwingChangesNothing() {
        CardWorkshop x = Check.compiled("D12;M1:c>t;Pw=0:w=1;E0;");
        x.deal(0, 1);
        x.act(1);
        int value = x.solve(2000);
        int count = x.look(1);
        for (String text : new String[] {"D11;M1:c>t;E0", gameOf(200)}) {
            Check.write(x, text);
            check.dueThrow(text, text.length() > 99 ? UnsupportedOperationException.class : IllegalArgumentException.class,
                    x::compile);
            check.due("the text stays", x.look(0), text.length());
            check.due("the code stays", x.look(1), count);
            check.due("its first rule stays", x.code(2, true), 51);
            check.due("its last instruction stays", x.code(count - 1, false), 17);
            check.due("the deck stays", x.look(2), 2);
            check.due("the rules stay", x.look(3), 2);
            check.due("the cards stay", x.card(0, -1), 1);
            check.due("the counter stays", x.counter(0), 1);
            check.due("the moves made stay", x.look(7), 1);
            check.moves("the moves stay", x, 0, x.card(0, 0));
            check.due("what was told stays", x.best(), 0);
            check.due("the value stays", x.solve(2000), value);
            x.wipe();
        }
    }
}
