/** Promises 1, 2 and 3: a new object, type, wipe. */
public final class TextTest {
    private static final Check check = new Check();

    public static void main(String[] args) {
        newObject();
        type();
        typeRefuses();
        typeKeepsTheLimit();
        wipe();
        check.end();
    }

    private static void newObject() {
        CardWorkshop x = new CardWorkshop();
        int[] looks = {0, 0, 0, 0, 0, -1, -1, 0};
        for (int which = 0; which < looks.length; which++) {
            check.due("new: look(" + which + ")", x.look(which), looks[which]);
        }
        check.noArgument("new: compile", x::compile);
        check.noState("new: deal", () -> x.deal(0, 0));
        check.noIndex("new: code", () -> x.code(0, false));
        check.due("new: put", x.put(0, 0), false);
        check.due("new: moves", x.moves(), 0);
        check.noIndex("new: move", () -> x.move(0, true));
        check.noIndex("new: act", () -> x.act(0));
        check.due("new: undo", x.undo(), false);
        check.due("new: card", x.card(0, -1), CardWorkshop.NONE);
        check.due("new: seen", x.seen(0, 0, -1), CardWorkshop.NONE);
        check.due("new: counter", x.counter(5), 0);
        check.noState("new: solve", () -> x.solve(1));
        check.due("new: best", x.best(), CardWorkshop.NONE);
    }

    private static void type() {
        CardWorkshop x = new CardWorkshop();
        check.due("nothing but zeros", x.type(0L), true);
        check.due("adds nothing", x.look(0), 0);
        check.due("zeros between", x.type(0x4400310031003B00L), true);
        check.due("four characters", x.look(0), 4);
        check.due("one at the low end", x.type('E'), true);
        check.due("the highest byte first", x.type(0x303B000000000000L), true);
        check.due("seven characters", x.look(0), 7);
        check.due("they are D11;E0;", x.compile(), 2);
        check.due("the lowest and the greatest character", x.type(0x217EL), true);
        check.due("two characters", x.look(0), 2);
    }

    private static void typeRefuses() {
        CardWorkshop x = Check.written("D1");
        long[] parts = {32L, 127L, 128L, 255L, -1L, 0x2000000000000000L, 0x4100000000000020L, 0x8000000000000000L};
        for (long part : parts) {
            check.due("type(" + part + ")", x.type(part), false);
            check.due("adds nothing", x.look(0), 2);
        }
        Check.write(x, "1;E0;");
        check.due("the text is as it was", x.compile(), 2);
    }

    private static void typeKeepsTheLimit() {
        CardWorkshop x = new CardWorkshop();
        for (int k = 0; k < 29; k++) {
            check.due("type", x.type(Check.pack("11111111")), true);
        }
        check.due("seven more", x.type(Check.pack("1111111")), true);
        check.due("239 characters", x.look(0), 239);
        check.due("two would be too many", x.type(Check.pack("11")), false);
        check.due("none of them is added", x.look(0), 239);
        check.due("one more", x.type('1'), true);
        check.due("240 characters", x.look(0), 240);
        check.due("none is no more", x.type(0L), true);
        check.due("one would be too many", x.type('1'), false);
        check.due("still 240", x.look(0), 240);
    }

    private static void wipe() {
        CardWorkshop x = Check.dealt("D12;P!w:w=1;E0;");
        check.due("solve", x.solve(2), 0);
        Check.write(x, "D11;xxxxx");
        x.wipe();
        check.due("empty", x.look(0), 0);
        check.noArgument("the empty text is no game", x::compile);
        check.due("the game stays", x.look(1), 8);
        check.due("what was dealt stays", x.look(4), 1);
        check.due("what was told stays", x.best(), 0);
        Check.write(x, "D11;E0;");
        check.due("nothing is left of the old text", x.compile(), 2);
        Check.write(x, "D11;E0");
        check.noArgument("nothing is left of a text that was read", x::compile);
    }
}
