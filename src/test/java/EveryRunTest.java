import java.util.ArrayList;
import java.util.LinkedHashMap;
import java.util.List;
import java.util.Map;

/**
 * All promises, where calls follow each other: from each of some states every run of up to three
 * steps (from one of them up to four) is made on the class and on the model, which must answer
 * the same, and show the same behind the last one.
 */
public final class EveryRunTest {
    private static final String GAME = "D13;M1:c>t,+rc+1,n,w=w+1;P#s:s>h;E#h+#g=0;";
    private static final String OTHER = "D22;P!w:w=1,+5;P!w:w=1,n,+7,s>p;M1:c>q,x=x-1;E#q=2;";
    private static final String NO_GAME = "D22;P1:n;P1:n;E0";
    private static final String TOO_LONG = "D11;P1:;E1" + "+1".repeat(80) + ";";

    interface Step {
        Object on(Face x);
    }

    private static final Map<String, Step> STARTS = new LinkedHashMap<>();
    private static final Map<String, Step> STEPS = new LinkedHashMap<>();
    private static final List<String> NAMES = new ArrayList<>();

    private static int runs = 0;
    private static int wrong = 0;

    public static void main(String[] args) {
        starts();
        steps();
        NAMES.addAll(STEPS.keySet());
        for (String start : STARTS.keySet()) {
            go(start, new ArrayList<>(), start.equals("played") ? 4 : 3);
        }
        System.out.println(runs + " runs, " + wrong + " of them not as due");
        if (wrong != 0) {
            System.exit(1);
        }
    }

    private static void starts() {
        STARTS.put("new", x -> true);
        STARTS.put("a game", x -> game(x, GAME));
        STARTS.put("played", x -> {
            game(x, GAME);
            x.deal(5, 1);
            x.put(0, 0);
            return x.act(0);
        });
        STARTS.put("another game is written behind a solve", x -> {
            game(x, GAME);
            x.deal(6, 1);
            x.act(1);
            x.put(2, 1);
            x.solve(2000);
            return write(x, OTHER);
        });
    }

    private static void steps() {
        STEPS.put("a game", x -> game(x, GAME));
        STEPS.put("another game", x -> game(x, OTHER));
        STEPS.put("no game", x -> game(x, NO_GAME));
        STEPS.put("too long a game", x -> game(x, TOO_LONG));
        STEPS.put("compile()", Face::compile);
        STEPS.put("wipe()", x -> {
            x.wipe();
            return "";
        });
        STEPS.put("deal(1, 1)", x -> x.deal(1, 1));
        STEPS.put("deal(2, 0)", x -> x.deal(2, 0));
        STEPS.put("deal(3, -1)", x -> x.deal(3, -1));
        STEPS.put("put(0, 0)", x -> x.put(0, 0));
        STEPS.put("put(1, 1)", x -> x.put(1, 1));
        STEPS.put("put(3, 3)", x -> x.put(3, 3));
        STEPS.put("act(0)", x -> x.act(0));
        STEPS.put("act(1)", x -> x.act(1));
        STEPS.put("undo()", Face::undo);
        STEPS.put("solve(2000)", x -> x.solve(2000));
        STEPS.put("solve(4)", x -> x.solve(4));
    }

    private static Object game(Face x, String text) {
        x.wipe();
        write(x, text);
        return x.compile();
    }

    private static boolean write(Face x, String text) {
        boolean all = true;
        for (int i = 0; i < text.length(); i += 8) {
            all &= x.type(Check.pack(text.substring(i, Math.min(text.length(), i + 8))));
        }
        return all;
    }

    private static void go(String start, List<String> run, int left) {
        if (wrong >= 10) {
            return;
        }
        String got = story(Face.of(new CardWorkshop()), start, run);
        String want = story(Face.of(new ModelWorkshop()), start, run);
        runs++;
        if (!got.equals(want)) {
            wrong++;
            System.out.println(start + ", then " + run + "\n  told " + got + "\n  due  " + want);
        }
        for (int k = 0; k < NAMES.size() && left > 0; k++) {
            run.add(NAMES.get(k));
            go(start, run, left - 1);
            run.remove(run.size() - 1);
        }
    }

    private static String story(Face x, String start, List<String> run) {
        STARTS.get(start).on(x);
        StringBuilder told = new StringBuilder();
        for (String step : run) {
            told.append(Check.told(() -> STEPS.get(step).on(x))).append(' ');
        }
        sight(x, told);
        // what the kept moves lead back to shows nowhere else
        for (boolean more = x.undo(); more; more = x.undo()) {
            told.append(" back");
            table(x, told);
        }
        return told.toString();
    }

    private static void sight(Face x, StringBuilder told) {
        told.append("best ").append(x.best()).append(" looks");
        for (int which = 0; which < 8; which++) {
            told.append(' ').append(x.look(which));
        }
        told.append(" code");
        for (int k = 0; k < 4 && k < x.look(1); k++) {
            told.append(' ').append(x.code(k, false)).append(':').append(x.code(k, true));
        }
        told.append(" moves");
        for (int i = 0; i < x.moves(); i++) {
            told.append(' ').append(x.move(i, false)).append(':').append(x.move(i, true));
        }
        table(x, told);
    }

    private static void table(Face x, StringBuilder told) {
        told.append(" turn ").append(x.look(5)).append(" made ").append(x.look(7)).append(" counters");
        for (int k = 0; k < 6; k++) {
            told.append(' ').append(x.counter(k));
        }
        for (int place = 0; place < 6; place++) {
            told.append(" place ").append(place);
            for (int i = -1; i < x.card(place, -1); i++) {
                told.append(' ').append(x.card(place, i)).append(':').append(x.seen(0, place, i));
            }
        }
    }
}
