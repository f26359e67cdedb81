import java.util.Random;

/** All promises: random runs of calls, each answer held against the model's. */
public final class RandomRunsTest {
    private static final int RUNS = 6000;
    /** Nothing is promised behind so many calls. */
    private static final int CALLS = 512;
    /** A game in one go: wipe, 31 parts of a text (one character too long at most), compile and deal. */
    private static final int LONGEST_STEP = 34;

    private static int wrong = 0;
    private static long calls = 0;
    private static final long[] thrown = new long[18];
    private static final long[] answered = new long[18];

    private final Random random;
    private final Games games;
    private final CardWorkshop real = new CardWorkshop();
    private final ModelWorkshop model = new ModelWorkshop();
    private final int run;

    private RandomRunsTest(int run) {
        this.run = run;
        random = new Random(run);
        games = new Games(random);
    }

    public static void main(String[] args) {
        for (int run = 0; run < RUNS && wrong < 10; run++) {
            new RandomRunsTest(run).play();
        }
        for (int kind = 2; kind < 18; kind++) {
            System.out.println("promise " + kind + ": " + answered[kind] + " answered, " + thrown[kind] + " thrown");
        }
        System.out.println(calls + " calls, " + wrong + " answers not as due");
        if (wrong != 0) {
            System.exit(1);
        }
    }

    interface Call {
        long run();
    }

    private void same(int promise, String what, Call mine, Call due) {
        String got = told(mine);
        String want = told(due);
        calls++;
        (want.startsWith("throws") ? thrown : answered)[promise]++;
        if (!got.equals(want)) {
            wrong++;
            System.out.println("run " + run + ": " + what + " answered " + got + ", due is " + want);
        }
    }

    private static String told(Call call) {
        try {
            return "" + call.run();
        } catch (RuntimeException e) {
            return "throws." + e.getClass().getSimpleName();
        }
    }

    private static long number(boolean held) {
        return held ? 1 : 0;
    }

    private void play() {
        int start = wrong;
        int left = CALLS;
        while (left >= LONGEST_STEP && wrong == start) {
            left -= random.nextInt(25) == 0 ? game() : call();
        }
    }

    private int game() {
        String text = games.text();
        wipe();
        int used = 2;
        for (int i = 0; i < text.length(); i += 8) {
            type(Check.pack(text.substring(i, Math.min(text.length(), i + 8))));
            used++;
        }
        compile(text);
        deal(random.nextInt(), random.nextInt(5));
        return used + 1;
    }

    private void wipe() {
        real.wipe();
        model.wipe();
    }

    private void type(long part) {
        same(2, "type(" + part + ")", () -> number(real.type(part)), () -> number(model.type(part)));
    }

    private void compile(String text) {
        same(4, "compile() " + text, real::compile, model::compile);
    }

    private void deal(int seed, int n) {
        same(6, "deal(" + seed + ", " + n + ")", () -> real.deal(seed, n), () -> model.deal(seed, n));
    }

    /** Mostly an index that is there, at times one beside it, or any number. */
    private int index(int from, int below) {
        int kind = random.nextInt(20);
        if (kind == 0) {
            return random.nextBoolean() ? random.nextInt() : random.nextInt(30) - 3;
        }
        if (kind == 1) {
            return random.nextBoolean() ? from - 1 : below;
        }
        return below <= from ? from : from + random.nextInt(below - from);
    }

    private int call() {
        int kind = random.nextInt(40);
        boolean flag = random.nextBoolean();
        int a = index(0, 6);
        int b = index(-1, 6);
        int i = index(0, model.moves());
        if (kind < 10) {
            same(10, "act(" + i + ")", () -> real.act(i), () -> model.act(i));
        } else if (kind < 15) {
            same(12, "card(" + a + ", " + b + ")", () -> real.card(a, b), () -> model.card(a, b));
        } else if (kind < 18) {
            int seat = index(0, 2);
            same(13, "seen(" + seat + ", " + a + ", " + b + ")", () -> real.seen(seat, a, b), () -> model.seen(seat, a, b));
        } else if (kind < 20) {
            same(14, "counter(" + a + ")", () -> real.counter(a), () -> model.counter(a));
        } else if (kind < 23) {
            int which = index(0, 8);
            same(15, "look(" + which + ")", () -> real.look(which), () -> model.look(which));
        } else if (kind < 25) {
            same(11, "undo()", () -> number(real.undo()), () -> number(model.undo()));
        } else if (kind < 27) {
            int card = index(0, model.look(2));
            same(7, "put(" + card + ", " + a + ")", () -> number(real.put(card, a)), () -> number(model.put(card, a)));
        } else if (kind < 29) {
            same(8, "moves()", real::moves, model::moves);
        } else if (kind < 32) {
            same(9, "move(" + i + ", " + flag + ")", () -> real.move(i, flag), () -> model.move(i, flag));
        } else if (kind < 35) {
            int k = index(0, model.look(1));
            same(5, "code(" + k + ", " + flag + ")", () -> real.code(k, flag), () -> model.code(k, flag));
        } else {
            return rareCall(kind);
        }
        return 1;
    }

    private int rareCall(int kind) {
        if (kind < 37) {
            int budget = random.nextInt(3) == 0 ? index(1, 60) : index(1, 2001);
            same(16, "solve(" + budget + ")", () -> real.solve(budget), () -> model.solve(budget));
            same(17, "best()", real::best, model::best);
            return 2;
        } else if (kind == 37) {
            same(17, "best()", real::best, model::best);
        } else if (kind == 38 && random.nextInt(4) == 0) {
            deal(random.nextInt(), index(0, 6));
        } else if (random.nextInt(6) == 0) {
            compile("at random");
        } else if (random.nextInt(6) == 0) {
            wipe();
        } else {
            type(random.nextBoolean() ? random.nextLong() : Check.pack(games.part()));
        }
        return 1;
    }
}
