import java.util.ArrayList;
import java.util.List;

/**
 * The document written down a second time, in another way than the class does it: exprs are
 * trees, places are lists, nothing is used again. It is what random runs are held against.
 */
final class ModelWorkshop {
    interface Expr {
        int of(State s, int seat, int chosen);
    }

    interface Effect {
        void act(State s, int seat, int chosen);
    }

    record Rule(boolean choosing, Expr guard, List<Effect> effects) { }

    record Move(int rule, int card) { }

    static final class State {
        final List<List<Integer>> places = new ArrayList<>();
        int[] counters = new int[6];
        int turn = 0;

        State() {
            for (int k = 0; k < 6; k++) {
                places.add(new ArrayList<>());
            }
        }

        State copy() {
            State s = new State();
            for (int k = 0; k < 6; k++) {
                s.places.get(k).addAll(places.get(k));
            }
            s.counters = counters.clone();
            s.turn = turn;
            return s;
        }

        void go(Integer card, int place) {
            for (List<Integer> row : places) {
                row.remove(card);
            }
            places.get(place).add(card);
        }

        static int place(int zone, int seat) {
            int[] first = {0, 1, 2, 3, 4, 5};
            int[] second = {1, 0, 2, 3, 5, 4};
            return seat == 0 ? first[zone] : second[zone];
        }

        List<Integer> zone(int zone, int seat) {
            return places.get(place(zone, seat));
        }

        int top(int zone, int seat, int chosen) {
            if (zone == 6) {
                return chosen;
            }
            List<Integer> row = zone(zone, seat);
            return row.isEmpty() ? -1 : row.get(row.size() - 1);
        }
    }

    private String text = "";
    private List<int[]> code = new ArrayList<>();
    private List<Rule> rules = new ArrayList<>();
    private Expr end;
    private int suits = 0;
    private int ranks = 0;
    private State state;
    private final List<State> past = new ArrayList<>();
    private Integer told;

    // reading: each production of the grammar is one method, which answers its tree

    private int at;
    private boolean inM;
    private List<int[]> out;
    private int outRanks;

    private boolean eat(String s) {
        if (!text.startsWith(s, at)) {
            return false;
        }
        at += s.length();
        return true;
    }

    private void need(boolean held) {
        if (!held) {
            throw new IllegalArgumentException();
        }
    }

    private char one(String of) {
        need(at < text.length() && of.indexOf(text.charAt(at)) >= 0);
        return text.charAt(at++);
    }

    private boolean sees(String of) {
        return at < text.length() && of.indexOf(text.charAt(at)) >= 0;
    }

    private void out(int number, int argument) {
        out.add(new int[] {number, argument});
    }

    private Expr expr(int deep) {
        Expr left = and(deep);
        while (eat("|")) {
            Expr a = left;
            Expr b = and(deep);
            out(11, 0);
            left = (s, p, c) -> truth(a.of(s, p, c) != 0 | b.of(s, p, c) != 0);
        }
        return left;
    }

    private Expr and(int deep) {
        Expr left = cmp(deep);
        while (eat("&")) {
            Expr a = left;
            Expr b = cmp(deep);
            out(10, 0);
            left = (s, p, c) -> truth(a.of(s, p, c) != 0 & b.of(s, p, c) != 0);
        }
        return left;
    }

    private Expr cmp(int deep) {
        Expr a = add(deep);
        if (eat("<")) {
            Expr b = add(deep);
            out(8, 0);
            return (s, p, c) -> truth(a.of(s, p, c) < b.of(s, p, c));
        }
        if (eat("=")) {
            Expr b = add(deep);
            out(9, 0);
            return (s, p, c) -> truth(a.of(s, p, c) == b.of(s, p, c));
        }
        return a;
    }

    private Expr add(int deep) {
        Expr left = mul(deep);
        while (sees("+-")) {
            boolean plus = one("+-") == '+';
            Expr a = left;
            Expr b = mul(deep);
            out(plus ? 5 : 6, 0);
            left = (s, p, c) -> plus ? a.of(s, p, c) + b.of(s, p, c) : a.of(s, p, c) - b.of(s, p, c);
        }
        return left;
    }

    private Expr mul(int deep) {
        Expr left = unit(deep, 0);
        while (eat("*")) {
            Expr a = left;
            Expr b = unit(deep, 0);
            out(7, 0);
            left = (s, p, c) -> a.of(s, p, c) * b.of(s, p, c);
        }
        return left;
    }

    private Expr unit(int deep, int nots) {
        if (eat("!")) {
            need(nots < 4);
            Expr a = unit(deep, nots + 1);
            out(12, 0);
            return (s, p, c) -> truth(a.of(s, p, c) == 0);
        }
        if (eat("(")) {
            need(deep < 4);
            Expr a = expr(deep + 1);
            need(eat(")"));
            return a;
        }
        if (sees("wxyz")) {
            int k = "wxyz".indexOf(one("wxyz"));
            out(1, k);
            return (s, p, c) -> s.counters[k];
        }
        if (eat("#")) {
            int zone = "hgstpq".indexOf(one("hgstpq"));
            out(2, zone);
            return (s, p, c) -> s.zone(zone, p).size();
        }
        if (sees("ru")) {
            boolean rank = one("ru") == 'r';
            int zone = card();
            out(rank ? 3 : 4, zone);
            int divisor = outRanks;
            return (s, p, c) -> {
                int top = s.top(zone, p, c);
                return top < 0 ? -1 : rank ? top % divisor : top / divisor;
            };
        }
        return number();
    }

    private Expr number() {
        String digits = "";
        while (sees("0123456789")) {
            digits += one("0123456789");
        }
        need(digits.length() >= 1 && digits.length() <= 3);
        int number = Integer.parseInt(digits);
        out(0, number);
        return (s, p, c) -> number;
    }

    private int card() {
        return "hgstpqc".indexOf(one(inM ? "hgstpqc" : "hgstpq"));
    }

    private static int truth(boolean held) {
        return held ? 1 : 0;
    }

    private Effect effect() {
        if (eat("n")) {
            out(16, 0);
            return (s, p, c) -> s.turn = 1 - p;
        }
        if (eat("+")) {
            Expr a = expr(0);
            out(15, 0);
            return (s, p, c) -> s.counters[4 + p] += a.of(s, p, c);
        }
        if (sees("wxyz")) {
            int k = "wxyz".indexOf(one("wxyz"));
            need(eat("="));
            Expr a = expr(0);
            out(14, k);
            return (s, p, c) -> s.counters[k] = a.of(s, p, c);
        }
        int from = card();
        need(eat(">"));
        int to = "hgstpq".indexOf(one("hgstpq"));
        out(13, 8 * from + to);
        return (s, p, c) -> {
            int top = s.top(from, p, c);
            if (top >= 0) {
                s.go(top, State.place(to, p));
            }
        };
    }

    int compile() {
        at = 0;
        out = new ArrayList<>();
        List<Rule> read = new ArrayList<>();
        need(eat("D"));
        int newSuits = one("1234") - '0';
        outRanks = one("123456") - '0';
        need(eat(";"));
        while (sees("MP")) {
            inM = one("MP") == 'M';
            need(read.size() < 8);
            Expr guard = expr(0);
            out(17, 0);
            need(eat(":"));
            List<Effect> effects = new ArrayList<>();
            if (!eat(";")) {
                do {
                    effects.add(effect());
                } while (eat(","));
                need(eat(";"));
            }
            out(17, 0);
            read.add(new Rule(inM, guard, effects));
        }
        need(eat("E"));
        inM = false;
        Expr newEnd = expr(0);
        out(17, 0);
        need(eat(";") && at == text.length());
        if (out.size() > 160) {
            throw new UnsupportedOperationException();
        }
        text = "";
        code = out;
        rules = read;
        end = newEnd;
        suits = newSuits;
        ranks = outRanks;
        state = null;
        past.clear();
        told = null;
        return code.size();
    }

    boolean type(long part) {
        String more = "";
        for (int k = 7; k >= 0; k--) {
            int c = (int) (part >> 8 * k & 255L);
            if (c != 0) {
                if (c <= 32 || c >= 127) {
                    return false;
                }
                more += (char) c;
            }
        }
        if ((text + more).length() > 240) {
            return false;
        }
        text += more;
        return true;
    }

    void wipe() {
        text = "";
    }

    int code(int k, boolean argument) {
        if (k < 0 || k >= code.size()) {
            throw new IndexOutOfBoundsException();
        }
        return code.get(k)[argument ? 1 : 0];
    }

    int deal(int seed, int n) {
        if (end == null) {
            throw new IllegalStateException();
        }
        if (n < 0) {
            throw new IllegalArgumentException();
        }
        List<Integer> deck = new ArrayList<>();
        for (int k = 0; k < suits * ranks; k++) {
            deck.add(k);
        }
        int x = seed;
        for (int i = deck.size() - 1; i >= 1; i--) {
            x = x * 22695477 + 1;
            int j = (x >>> 16) % (i + 1);
            Integer kept = deck.get(i);
            deck.set(i, deck.get(j));
            deck.set(j, kept);
        }
        state = new State();
        for (long k = 0; k < 2L * n && !deck.isEmpty(); k++) {
            state.places.get((int) (k % 2)).add(deck.remove(deck.size() - 1));
        }
        state.places.get(2).addAll(deck);
        past.clear();
        told = null;
        return deck.size();
    }

    boolean put(int card, int place) {
        if (state == null || card < 0 || card >= suits * ranks || place < 0 || place > 5) {
            return false;
        }
        state.go(card, place);
        told = null;
        return true;
    }

    private List<Move> list(State s) {
        List<Move> moves = new ArrayList<>();
        if (s == null || end.of(s, s.turn, -1) != 0) {
            return moves;
        }
        for (int k = 0; k < rules.size(); k++) {
            Rule rule = rules.get(k);
            List<Integer> cards = rule.choosing() ? new ArrayList<>(s.places.get(s.turn)) : List.of(-1);
            for (int card : cards.stream().sorted().toList()) {
                if (rule.guard().of(s, s.turn, card) != 0) {
                    moves.add(new Move(k, card));
                }
            }
        }
        return moves;
    }

    private State behind(State s, Move move) {
        State next = s.copy();
        for (Effect effect : rules.get(move.rule()).effects()) {
            effect.act(next, s.turn, move.card());
        }
        return next;
    }

    int moves() {
        return list(state).size();
    }

    private Move find(int i) {
        List<Move> moves = list(state);
        if (i < 0 || i >= moves.size()) {
            throw new IndexOutOfBoundsException();
        }
        return moves.get(i);
    }

    int move(int i, boolean card) {
        return card ? find(i).card() : find(i).rule();
    }

    int act(int i) {
        Move move = find(i);
        if (past.size() >= 60) {
            throw new IllegalStateException();
        }
        past.add(state);
        state = behind(state.copy(), move);
        told = null;
        return past.size();
    }

    boolean undo() {
        if (past.isEmpty()) {
            return false;
        }
        state = past.remove(past.size() - 1);
        told = null;
        return true;
    }

    int card(int place, int i) {
        if (state == null || place < 0 || place > 5) {
            return -1;
        }
        List<Integer> row = state.places.get(place);
        if (i == -1) {
            return row.size();
        }
        return i < 0 || i >= row.size() ? -1 : row.get(i);
    }

    int seen(int seat, int place, int i) {
        if (seat != 0 && seat != 1) {
            return -1;
        }
        if (i != -1 && (place == 2 || place == 1 && seat == 0 || place == 0 && seat == 1)) {
            return -1;
        }
        return card(place, i);
    }

    int counter(int k) {
        if (k < 0 || k > 5) {
            throw new IndexOutOfBoundsException();
        }
        return state == null ? 0 : state.counters[k];
    }

    int look(int which) {
        int none = state == null ? -1 : 0;
        return switch (which) {
            case 0 -> text.length();
            case 1 -> code.size();
            case 2 -> suits * ranks;
            case 3 -> rules.size();
            case 4 -> state == null ? 0 : 1;
            case 5 -> none < 0 ? none : state.turn;
            case 6 -> none < 0 ? none : truth(list(state).isEmpty());
            case 7 -> past.size();
            default -> -1;
        };
    }

    private int positions;

    private int value(State s, int depth, int budget) {
        positions++;
        if (positions > budget || depth > 10) {
            throw new UnsupportedOperationException();
        }
        List<Integer> values = new ArrayList<>();
        for (Move move : list(s)) {
            values.add(value(behind(s, move), depth + 1, budget));
        }
        if (values.isEmpty()) {
            return s.counters[4] - s.counters[5];
        }
        values.sort(null);
        return values.get(s.turn == 0 ? values.size() - 1 : 0);
    }

    int solve(int budget) {
        if (state == null) {
            throw new IllegalStateException();
        }
        if (budget < 1 || budget > 2000) {
            throw new IllegalArgumentException();
        }
        positions = 0;
        int value = value(state, 0, budget);
        told = value;
        return value;
    }

    /** Asks anew what lies behind each move, as the document says it. */
    int best() {
        if (told == null) {
            return -1;
        }
        List<Move> moves = list(state);
        for (int i = 0; i < moves.size(); i++) {
            positions = 0;
            if (value(behind(state, moves.get(i)), 1, 2000) == told) {
                return i;
            }
        }
        return -1;
    }
}
