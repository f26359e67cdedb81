/** Promises 1 to 5: each sentence that names an edge of a text, a game or its code, on both sides. */
public final class ReadingEdgesTest {
    private static final Check check = new Check();
    private static final String NO_ARGUMENT = "throws.IllegalArgumentException";
    private static final String TOO_LONG = "throws.UnsupportedOperationException";
    /** Where an expr can stand. */
    private static final String[] EXPR_PLACES = {"D11;E@;", "D11;P@:;E0;", "D11;M@:;E0;", "D11;P1:w=@;E0;", "D11;P1:+@;E0;"};

    public static void main(String[] args) {
        newObject();
        typeZeros();
        typeOtherBytes();
        typeTooMuch();
        textOf240();
        wipe();
        justAGame();
        rules();
        suitsAndRanks();
        effects();
        chosenInRulesM();
        cardsAndZones();
        oneComparison();
        asOftenAsOneLikes();
        digits();
        brackets();
        nots();
        instructions();
        argumentsOfNone();
        textIsEmptyThen();
        textStays();
        nothingIsDealt();
        noGame();
        tooLong();
        noSuchInstruction();
        check.end();
    }

    private static String repeat(String part, int times) {
        return part.repeat(times);
    }

    private static void everywhere(String expr, boolean right) {
        for (String place : EXPR_PLACES) {
            String text = place.replace("@", expr);
            if (right) {
                check.game(text);
            } else {
                check.noGame(text);
            }
        }
    }

    private static void newObject() {
        check.sentence(1, "No text, no game.");
        CardWorkshop x = new CardWorkshop();
        check.due("characters", x.look(0), 0);
        check.due("instructions", x.look(1), 0);
        check.due("cards", x.look(2), 0);
        check.due("rules", x.look(3), 0);
        check.noArgument("compile", x::compile);
        check.noState("deal", () -> x.deal(0, 0));
        check.noIndex("code", () -> x.code(0, false));
        Check.write(x, "D12;P0:;E0;");
        check.due("characters, then", x.look(0), 11);
        check.due("still no game", x.look(1), 0);
        check.due("compile, then", x.compile(), 5);
        check.due("a game, then", x.look(1), 5);
        CardWorkshop other = new CardWorkshop();
        check.due("another one has no text", other.look(0), 0);
        check.due("nor a game", other.look(1), 0);
    }

    private static void typeZeros() {
        check.sentence(2, "bytes that are 0 are passed over");
        CardWorkshop x = new CardWorkshop();
        check.due("eight zeros", x.type(0L), true);
        check.due("nothing is added", x.look(0), 0);
        String text = "D13;E10;";
        for (int k = 0; k < 8; k++) {
            check.due("one character in byte " + k, x.type((long) text.charAt(k) << 56 - 8 * k), true);
            check.due("it is added", x.look(0), k + 1);
        }
        check.due("they are " + text, x.compile(), 2);
        check.due("its deck", x.look(2), 3);
        check.due("its number", x.code(0, true), 10);
        for (int k = 0; k < 8; k++) {
            CardWorkshop y = new CardWorkshop();
            long part = Check.pack(text) & ~(255L << 56 - 8 * k);
            check.due("one zero in byte " + k, y.type(part), true);
            check.due("seven are added", y.look(0), 7);
        }
        check.due("no zero at all", x.type(Check.pack(text)), true);
        check.due("eight are added, in their order", x.compile(), 2);
        CardWorkshop y = new CardWorkshop();
        check.due("zeros between", y.type(0x4400003100320000L), true);
        check.due("zeros before and behind", y.type(0x00003B453000003BL), true);
        check.due("the highest first", y.compile(), 2);
        check.due("its deck", y.look(2), 2);
    }

    private static void typeOtherBytes() {
        check.sentence(2, "false if another byte is not 33 .. 126");
        for (int k = 0; k < 8; k++) {
            for (int b = 1; b < 256; b++) {
                boolean right = b >= 33 && b <= 126;
                int shift = 56 - 8 * k;
                CardWorkshop x = new CardWorkshop();
                check.due("byte " + k + " alone is " + b, x.type((long) b << shift), right);
                check.due("byte " + k + " alone is " + b + ": characters", x.look(0), right ? 1 : 0);
                CardWorkshop y = new CardWorkshop();
                long part = Check.pack("11111111") & ~(255L << shift) | (long) b << shift;
                check.due("byte " + k + " of eight is " + b, y.type(part), right);
                check.due("byte " + k + " of eight is " + b + ": characters", y.look(0), right ? 8 : 0);
            }
        }
        CardWorkshop x = Check.written("D1");
        check.due("a wrong byte behind right ones", x.type(0x313B453020000000L), false);
        Check.write(x, "2;E0;");
        check.due("the right ones are not added either", x.compile(), 2);
        check.due("the deck", x.look(2), 2);
    }

    private static void typeTooMuch() {
        check.sentence(2, "or there would be more than 240");
        for (int had = 232; had <= 240; had++) {
            for (int more = 0; more <= 8; more++) {
                CardWorkshop x = Check.written(repeat("1", had));
                check.due(had + " were typed", x.look(0), had);
                boolean right = had + more <= 240;
                check.due(more + " behind " + had, x.type(Check.pack(repeat("1", more))), right);
                check.due(more + " behind " + had + ": characters", x.look(0), right ? had + more : had);
            }
        }
        CardWorkshop x = Check.written(repeat("1", 239));
        check.due("a wrong byte where one has room", x.type(32L), false);
        check.due("one in the highest byte has room", x.type((long) '1' << 56), true);
        check.due("now none has", x.type((long) '1' << 56), false);
    }

    private static void textOf240() {
        check.sentence(4, "THE TEXT has at most 240 characters 33 .. 126");
        String nearly = "D11;E" + repeat("111+", 58);
        check.game(nearly + "1;", 118);
        check.due("characters of the longest game", (nearly + "11;").length(), 240);
        check.game(nearly + "11;", 118);
        check.noGame(nearly + "11:");
        check.due("its last number", Check.compiled(nearly + "27;").code(115, true), 27);
        CardWorkshop x = Check.written(nearly + "111");
        check.due("no room for the last character", x.type(';'), false);
        check.noArgument("so it is no game", x::compile);
    }

    private static void wipe() {
        check.sentence(3, "The text becomes empty.");
        for (int had : new int[] {0, 1, 239, 240}) {
            CardWorkshop x = Check.written(repeat("1", had));
            x.wipe();
            check.due("behind " + had + " characters", x.look(0), 0);
            check.noArgument("the empty text is no game", x::compile);
            check.due("240 have room", Check.write(x, repeat("2", 240)), true);
            check.due("they are there", x.look(0), 240);
            x.wipe();
            Check.write(x, "D11;E0;");
            check.due("nothing is left of them", x.compile(), 2);
        }
        CardWorkshop x = Check.dealt("D12;P!w:w=1;E0;");
        x.solve(2);
        Check.write(x, "D");
        x.wipe();
        check.due("the game stays", x.look(1), 8);
        check.due("what was dealt stays", x.card(2, -1), 2);
        check.due("what was told stays", x.best(), 0);
    }

    private static void justAGame() {
        check.sentence(4, "It is a GAME if it is just");
        String text = "D12;M1:c>t,n;P#h<2&!w:w=(x+3)*2,+rs;E#h=0|9<z;";
        check.game(text);
        for (int k = 0; k < text.length(); k++) {
            check.noGame(text.substring(0, k));
        }
        for (int k = 1; k < text.length(); k++) {
            check.noGame(text.substring(k));
        }
        for (char c = 33; c <= 126; c++) {
            check.noGame(text + c);
            check.noGame(c + text);
        }
        check.noGame(text + text);
    }

    private static void rules() {
        check.sentence(4, "RULES, at most 8 (or none)");
        for (String rule : new String[] {"P1:;", "M1:;", "M1:c>t;P0:n,n;"}) {
            int each = rule.length() > 4 ? 2 : 1;
            for (int times = 0; times * each <= 10; times++) {
                String text = "D11;" + repeat(rule, times) + "E0;";
                if (times * each > 8) {
                    check.noGame(text);
                } else {
                    check.game(text);
                    check.due("rules of " + text, Check.compiled(text).look(3), times * each);
                }
            }
        }
        CardWorkshop x = Check.compiled("D11;" + repeat("P1:;", 8) + "E0;");
        Check.write(x, "D11;E0;");
        check.due("none behind eight", x.compile(), 2);
        check.due("none is left of the eight", x.look(3), 0);
        x.deal(0, 0);
        check.due("nor a move of theirs", x.moves(), 0);
        check.noGame("D11;X1:;E0;");
        check.noGame("D11;m1:;E0;");
        check.noGame("D11;E0;P1:;");
        check.noGame("D11;P1:;");
    }

    private static void suitsAndRanks() {
        check.sentence(4, "suits being a digit 1 .. 4 and ranks a digit 1 .. 6");
        for (char c = 33; c <= 126; c++) {
            if (c >= '1' && c <= '4') {
                check.game("D" + c + "6;E0;", 2);
                check.due("cards of " + c + " suits", Check.compiled("D" + c + "6;E0;").look(2), (c - '0') * 6);
            } else {
                check.noGame("D" + c + "6;E0;");
            }
            if (c >= '1' && c <= '6') {
                check.game("D4" + c + ";E0;", 2);
                check.due("cards of " + c + " ranks", Check.compiled("D4" + c + ";E0;").look(2), 4 * (c - '0'));
            } else {
                check.noGame("D4" + c + ";E0;");
            }
        }
        check.noGame("D4;E0;");
        check.noGame("D;E0;");
        check.noGame("D111;E0;");
        check.noGame("D011;E0;");
    }

    private static void effects() {
        check.sentence(4, "EFFECTS (none, or some with a comma between each two), and ;");
        check.game("D11;P1:;E0;", 5);
        check.game("D11;P1:n;E0;", 6);
        check.game("D11;P1:n,n;E0;", 7);
        check.game("D11;P1:s>t,w=1,+1,n;E0;", 11);
        check.game("D11;P1:n" + repeat(",n", 113) + ";E0;", 119);
        String[] wrong = {",", "n,", ",n", "n,,n", "nn", "n;n", "n:n", "s>tn", "w=1+1,", "+1,,+1", "s>t;;", ":", "1", "w", "+", "-1",
            "w=", "=1", "w>t", "v=1", "N"};
        for (String effects : wrong) {
            check.noGame("D11;P1:" + effects + ";E0;");
            check.noGame("D11;M1:" + effects + ";E0;");
        }
        check.noGame("D11;P1:E0;");
        check.noGame("D11;P1:nE0;");
        check.noGame("D11;P1;E0;");
        check.noGame("D11;P:;E0;");
        check.noGame("D11;P1n;E0;");
    }

    private static void chosenInRulesM() {
        check.sentence(4, "A CARD is c, the one that is chosen (in rules M alone), or a zone: its top card.");
        String[] rules = {"rc:;", "uc:;", "1:c>t;", "1:n,c>h;", "1:w=rc;", "1:w=uc;", "1:+rc;", "1:+uc;", "(!(1-uc)):;"};
        for (String rule : rules) {
            check.game("D11;M" + rule + "E0;");
            check.noGame("D11;P" + rule + "E0;");
            check.game("D11;P1:;M" + rule + "P1:;E0;");
            check.noGame("D11;M1:;P" + rule + "M1:;E0;");
        }
        check.noGame("D11;Erc;");
        check.noGame("D11;Euc;");
        check.noGame("D11;M1:c>t;Erc;");
        check.noGame("D11;M1:c>t;Euc;");
        check.game("D11;M1:c>t;Ert;");
    }

    private static void cardsAndZones() {
        check.sentence(4, "ZONES: h the hand of the seat that moves, g the other seat's hand, s the stock, t the table, "
                + "p the pile of the seat that moves, q the other's. COUNTERS: w x y z.");
        for (char c = 33; c <= 126; c++) {
            boolean zone = "hgstpq".indexOf(c) >= 0;
            boolean counter = "wxyz".indexOf(c) >= 0;
            boolean unit = counter || c >= '0' && c <= '9';
            one("D11;M#" + c + ":;E0;", zone);
            one("D11;Mr" + c + ":;E0;", zone || c == 'c');
            one("D11;Mu" + c + ":;E0;", zone || c == 'c');
            one("D11;M1:" + c + ">t;E0;", zone || c == 'c');
            one("D11;M1:c>" + c + ";E0;", zone);
            one("D11;P1:" + c + "=1;E0;", counter);
            one("D11;M" + c + ":;E0;", unit);
            one("D11;E" + c + ";", unit);
        }
    }

    private static void one(String text, boolean right) {
        if (right) {
            check.game(text);
        } else {
            check.noGame(text);
        }
    }

    private static void oneComparison() {
        check.sentence(4, "cmp: add, or add < add, or add = add;");
        for (String right : new String[] {"1", "1<2", "1=2", "(1<2)<3", "1=(2<3)", "1<2&3=4", "1=2|3<4", "1+2<3*4", "(1=2)=(3=4)"}) {
            everywhere(right, true);
        }
        for (String wrong : new String[] {"1<2<3", "1=2=3", "1<2=3", "1=2<3", "1<", "<1", "=1", "1==2", "1<=2", "1>2", "(1<2<3)"}) {
            everywhere(wrong, false);
        }
    }

    private static void asOftenAsOneLikes() {
        check.sentence(4, "add: mul, then + mul or - mul as often as one likes; mul: unit * unit * .. ;");
        for (String sign : new String[] {"+", "-", "*", "|", "&"}) {
            check.game("D11;E0;", 2);
            for (int times : new int[] {1, 2, 78, 79}) {
                check.game("D11;E1" + repeat(sign + "1", times) + ";", 2 * times + 2);
            }
            check.noGame("D11;E1" + sign + ";");
            check.noGame("D11;E" + sign + "1;");
            check.noGame("D11;E1" + sign + sign + "1;");
        }
        check.noGame("D11;E;");
    }

    private static void digits() {
        check.sentence(4, "a number of one to three digits (a fourth one behind them is wrong)");
        for (String number : new String[] {"0", "9", "10", "99", "100", "999", "00", "000", "007", "090"}) {
            everywhere(number, true);
            CardWorkshop x = Check.compiled("D11;E" + number + ";");
            check.due("number " + number, x.code(0, true), Integer.parseInt(number));
        }
        for (String number : new String[] {"", "0000", "0001", "1000", "9999", "00000", "12345"}) {
            everywhere(number, false);
            everywhere("1+" + number, false);
            everywhere("(" + number + ")", false);
        }
        for (char c = '0'; c <= '9'; c++) {
            everywhere("12" + c, true);
            everywhere("123" + c, false);
        }
    }

    private static void brackets() {
        check.sentence(4, "Brackets lie at most 4 deep");
        for (int deep = 0; deep <= 8; deep++) {
            String open = repeat("(", deep);
            String close = repeat(")", deep);
            everywhere(open + "1" + close, deep <= 4);
            everywhere("2+" + open + "1+w" + close, deep <= 4);
            everywhere(repeat("1-(", deep) + "1" + close, deep <= 4);
            everywhere(open + "1" + repeat("=1)", deep), deep <= 4);
            everywhere(repeat("!(", deep) + "#s" + close, deep <= 4);
        }
        everywhere("((((1))))*((((2))))", true);
        everywhere("((((1))))*(((((2)))))", false);
        everywhere("(((((1)))))*((((2))))", false);
        everywhere("(((1)+((2))))", true);
        everywhere("(((1)+(((2)))))", false);
        check.game("D11;P((((1)))):w=((((1)))),+((((1))));M((((1)))):;E((((1))));", 12);
        for (String wrong : new String[] {"()", "(", ")", "(1", "1)", "((1)", "(1))", "(1)(1)", "1(1)", "(1)1", "(1,1)"}) {
            everywhere(wrong, false);
        }
    }

    private static void nots() {
        check.sentence(4, "of ! at most 4 stand behind one another");
        for (int times = 0; times <= 8; times++) {
            String signs = repeat("!", times);
            everywhere(signs + "1", times <= 4);
            everywhere(signs + "(w)", times <= 4);
            everywhere("1&" + signs + "#h", times <= 4);
            everywhere("(" + signs + "rs)", times <= 4);
            everywhere("!!!!(" + signs + "1)", times <= 4);
            everywhere(signs + "(!!!!1)", times <= 4);
        }
        everywhere("!!!!1+!!!!1=!!!!1|!!!!1", true);
        check.code("four", Check.compiled("D11;E!!!!w;"), 1, 0, 12, 0, 12, 0, 12, 0, 12, 0, 17, 0);
        everywhere("!", false);
        everywhere("1!", false);
        everywhere("w!w", false);
    }

    /** A game of just as many instructions. */
    private static String gameOf(int instructions) {
        boolean even = instructions % 2 == 0;
        return (even ? "D11;Ew" : "D11;E!w") + repeat("+w", (instructions - (even ? 2 : 3)) / 2) + ";";
    }

    private static void instructions() {
        check.sentence(4, "It has at most 160 instructions");
        for (int count = 2; count <= 160; count++) {
            check.game(gameOf(count), count);
        }
        for (int count = 161; count <= 234; count++) {
            CardWorkshop x = Check.written(gameOf(count));
            check.due(count + " of them", Check.told(x::compile), TOO_LONG);
        }
        String sum = repeat("1+", 37) + "1";
        String before = "D11;P" + sum + ":+" + sum + ",n";
        check.game(before + ",n;Pw:;E0;", 160);
        check.due("one effect more", Check.told(Check.written(before + ",n,n;Pw:;E0;")::compile), TOO_LONG);
        check.due("one ! more in the last rule", Check.told(Check.written(before + ",n;P!w:;E0;")::compile), TOO_LONG);
        check.due("one ! more behind E", Check.told(Check.written(before + ",n;Pw:;E!0;")::compile), TOO_LONG);
        CardWorkshop last = Check.compiled(gameOf(160));
        check.due("the last one", last.code(159, false), 17);
        check.due("the one before it", last.code(158, false), 5);
    }

    private static void argumentsOfNone() {
        check.sentence(5, "each with an argument (0 where none is said)");
        CardWorkshop before = Check.compiled("D11;P999:z=999,q>q,z=999,q>q,z=999,q>q,z=999,q>q,z=999,q>q,z=999,q>q;E999;");
        Check.write(before, "D11;P!(1+1-1*1<1)&(1=1)|1:n,+1;E1;");
        before.compile();
        check.code("behind another game", before, 0, 1, 0, 1, 5, 0, 0, 1, 0, 1, 7, 0, 6, 0, 0, 1, 8, 0, 12, 0, 0, 1, 0, 1, 9, 0,
                10, 0, 0, 1, 11, 0, 17, 0, 16, 0, 0, 1, 15, 0, 17, 0, 0, 1, 17, 0);
    }

    private static void textIsEmptyThen() {
        check.sentence(4, "The text is read as a game, and is empty then (if this throws, it stays)");
        CardWorkshop x = Check.written("D11;E0;");
        check.due("compile", x.compile(), 2);
        check.due("characters", x.look(0), 0);
        check.due("compile again", Check.told(x::compile), NO_ARGUMENT);
        check.due("the game stays then", x.look(1), 2);
        check.due("240 have room", Check.write(x, repeat("1", 240)), true);
    }

    private static void textStays() {
        check.sentence(4, "(if this throws, it stays)");
        CardWorkshop x = Check.written("D12;E1");
        check.due("no game yet", Check.told(x::compile), NO_ARGUMENT);
        check.due("characters", x.look(0), 6);
        Check.write(x, ";");
        check.due("mended", Check.told(x::compile), "2");
        check.due("empty then", x.look(0), 0);
        CardWorkshop y = Check.written(gameOf(161));
        int length = y.look(0);
        check.due("too long", Check.told(y::compile), TOO_LONG);
        check.due("characters", y.look(0), length);
        check.due("too long still", Check.told(y::compile), TOO_LONG);
        Check.write(y, "w");
        check.due("with more behind it", Check.told(y::compile), NO_ARGUMENT);
        check.due("one character more", y.look(0), length + 1);
    }

    private static void nothingIsDealt() {
        check.sentence(4, "the game is in the workshop, nothing is dealt.");
        CardWorkshop x = Check.compiled("D12;P1:w=7,+8,n;E0;");
        check.due("a first game", x.look(4), 0);
        x.deal(0, 1);
        check.due("dealt", x.look(4), 1);
        x.act(0);
        Check.write(x, "D13;P1:;P1:;E0;");
        check.due("another game", x.compile(), 8);
        check.due("nothing is dealt", x.look(4), 0);
        check.due("cards", x.look(2), 3);
        check.due("rules", x.look(3), 2);
        check.due("no turn", x.look(5), -1);
        check.due("no end", x.look(6), -1);
        check.due("no moves made", x.look(7), 0);
        check.due("no moves", x.moves(), 0);
        check.due("no card", x.card(2, 0), -1);
        check.due("no counter", x.counter(0), 0);
        check.due("no score", x.counter(4), 0);
        check.due("none to take back", x.undo(), false);
        check.due("dealt again", x.deal(0, 0), 3);
        check.due("it plays by the new rules", x.moves(), 2);
        check.due("no counter is left", x.counter(0), 0);
        CardWorkshop y = Check.dealt("D12;P1:w=7;E0;");
        y.act(0);
        Check.write(y, "D12;P1:w=7;E0");
        check.noArgument("no other game", y::compile);
        check.due("what was dealt stays", y.look(4), 1);
        check.due("and its moves", y.look(7), 1);
    }

    private static void noGame() {
        check.sentence(4, "IllegalArgumentException if it is no game");
        check.noGame("");
        check.noGame(";");
        check.noGame("D11;E0");
        check.game("D11;E0;", 2);
        check.noGame("D11;E0;0");
        CardWorkshop x = Check.compiled("D46;P7:;E9;");
        Check.write(x, "D11;P1:n;M0:;E0");
        check.due("nearly another game", Check.told(x::compile), NO_ARGUMENT);
        check.due("cards of the first", x.look(2), 24);
        check.due("rules of the first", x.look(3), 1);
        check.code("code of the first", x, 0, 7, 17, 0, 17, 0, 0, 9, 17, 0);
    }

    private static void tooLong() {
        check.sentence(4, "UnsupportedOperationException if it is one, but its code would be too long");
        String just = gameOf(160);
        String more = gameOf(161);
        check.due("160 instructions", Check.told(Check.written(just)::compile), "160");
        check.due("161 instructions", Check.told(Check.written(more)::compile), TOO_LONG);
        check.noGame(more.substring(0, more.length() - 1));
        check.noGame(more + ";");
        check.noGame(more.replace(";E", ";E+"));
        check.noGame(gameOf(230).substring(0, 231));
        check.noGame("D11;P" + repeat("w+", 90) + "w:;E0:");
        CardWorkshop x = Check.compiled("D46;P7:;E9;");
        Check.write(x, more);
        check.due("behind another game", Check.told(x::compile), TOO_LONG);
        check.due("cards of the first", x.look(2), 24);
        check.due("rules of the first", x.look(3), 1);
        check.code("code of the first", x, 0, 7, 17, 0, 17, 0, 0, 9, 17, 0);
    }

    private static void noSuchInstruction() {
        check.sentence(5, "IndexOutOfBoundsException if there is none such");
        CardWorkshop x = new CardWorkshop();
        for (int k : new int[] {-1, 0, 1, 159, 160, Integer.MIN_VALUE, Integer.MAX_VALUE}) {
            check.noIndex("without a game: " + k, () -> x.code(k, false));
            check.noIndex("without a game: argument " + k, () -> x.code(k, true));
        }
        Check.write(x, "D11;P1:;E27;");
        check.noIndex("before it is compiled", () -> x.code(0, false));
        x.compile();
        check.due("the first", x.code(0, false), 0);
        check.due("its argument", x.code(0, true), 1);
        check.due("the last", x.code(4, false), 17);
        check.due("its argument", x.code(4, true), 0);
        check.due("the last but one", x.code(3, true), 27);
        for (int k : new int[] {-1, 5, 6, 159, 160, 161, Integer.MIN_VALUE, Integer.MAX_VALUE}) {
            check.noIndex("instruction " + k, () -> x.code(k, false));
            check.noIndex("argument " + k, () -> x.code(k, true));
        }
        Check.write(x, "D11;E0;");
        x.compile();
        check.due("a shorter game's last", x.code(1, false), 17);
        check.noIndex("what the longer one had", () -> x.code(2, false));
        CardWorkshop most = Check.compiled(gameOf(160));
        check.due("the last of 160", most.code(159, false), 17);
        check.noIndex("none behind it", () -> most.code(160, false));
        check.noIndex("no argument behind it", () -> most.code(160, true));
    }
}
