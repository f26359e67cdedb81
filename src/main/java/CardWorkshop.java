import java.util.Arrays;

/** A workshop for card games of two: rules as text, compiled, dealt, played and solved. */
public final class CardWorkshop {
    public static final int NONE = -1;

    private static final int TEXT_LIMIT = 240;
    private static final int CODE_LIMIT = 160;
    private static final int RULE_LIMIT = 8;
    private static final int BRACKET_LIMIT = 4;
    private static final int NOT_LIMIT = 4;
    private static final int DIGIT_LIMIT = 3;
    private static final int SUIT_LIMIT = 4;
    private static final int RANK_LIMIT = 6;
    private static final int CARD_LIMIT = SUIT_LIMIT * RANK_LIMIT;
    private static final int MOVE_LIMIT = 60;
    private static final int BUDGET_LIMIT = 2000;
    private static final int DEPTH_LIMIT = 10;

    private static final int NUM = 0;
    private static final int GET = 1;
    private static final int COUNT = 2;
    private static final int RANK = 3;
    private static final int SUIT = 4;
    private static final int ADD = 5;
    private static final int SUB = 6;
    private static final int MUL = 7;
    private static final int LESS = 8;
    private static final int SAME = 9;
    private static final int AND = 10;
    private static final int OR = 11;
    private static final int NOT = 12;
    private static final int MOVE = 13;
    private static final int SET = 14;
    private static final int SCORE = 15;
    private static final int TURN = 16;
    private static final int END = 17;

    private static final int SEATS = 2;
    private static final int PLACES = 6;
    private static final int STOCK = 2;
    private static final int TABLE = 3;
    private static final int PILES = 4;
    private static final int COUNTERS = 4;

    private static final String ZONE_NAMES = "hgstpq";
    private static final String COUNTER_NAMES = "wxyz";
    private static final int CHOSEN = 6;
    private static final int ZONE_STEP = 8;

    /** A move is one number, rule * MOVE_STEP + card + 1, so that a row of them is one array. */
    private static final int MOVE_STEP = CARD_LIMIT + 1;
    private static final int LIST_LIMIT = RULE_LIMIT * CARD_LIMIT;

    private final Reader reader = new Reader();
    private final Machine machine = new Machine();
    private final Solver solver = new Solver();

    private final Table table = new Table();
    private final Table[] history = new Table[MOVE_LIMIT];
    private int made = 0;
    private boolean dealt = false;

    private final int[] deck = new int[CARD_LIMIT];
    private final int[] listed = new int[LIST_LIMIT];
    private int bestMove = NONE;

    public CardWorkshop() {
        for (int k = 0; k < MOVE_LIMIT; k++) {
            history[k] = new Table();
        }
    }

    public boolean type(long part) {
        int added = 0;
        for (int shift = 56; shift >= 0; shift -= 8) {
            int c = byteOf(part, shift);
            if (c != 0 && (c < 33 || c > 126)) {
                return false;
            }
            added += c == 0 ? 0 : 1;
        }
        if (reader.length + added > TEXT_LIMIT) {
            return false;
        }
        for (int shift = 56; shift >= 0; shift -= 8) {
            int c = byteOf(part, shift);
            if (c != 0) {
                reader.append((char) c);
            }
        }
        return true;
    }

    private static int byteOf(long part, int shift) {
        return (int) (part >>> shift) & 255;
    }

    public void wipe() {
        reader.length = 0;
    }

    public int compile() throws IllegalArgumentException, UnsupportedOperationException {
        reader.readGame();
        if (reader.draft.length > CODE_LIMIT) {
            throw new UnsupportedOperationException("the code would be too long");
        }
        machine.game.copyFrom(reader.draft);
        reader.length = 0;
        dealt = false;
        made = 0;
        bestMove = NONE;
        return machine.game.length;
    }

    public int code(int k, boolean argument) throws IndexOutOfBoundsException {
        if (k < 0 || k >= machine.game.length) {
            throw new IndexOutOfBoundsException("no such instruction");
        }
        return argument ? machine.game.arguments[k] : machine.game.operations[k];
    }

    public int deal(int seed, int n) throws IllegalStateException, IllegalArgumentException {
        if (machine.game.length == 0) {
            throw new IllegalStateException("there is no game");
        }
        if (n < 0) {
            throw new IllegalArgumentException("n is below 0");
        }
        int left = machine.game.cards;
        shuffle(seed, left);
        table.clear();
        for (int round = 0; round < n && left > 0; round++) {
            for (int seat = 0; seat < SEATS && left > 0; seat++) {
                left--;
                table.lay(deck[left], seat);
            }
        }
        for (int i = 0; i < left; i++) {
            table.lay(deck[i], STOCK);
        }
        dealt = true;
        made = 0;
        bestMove = NONE;
        return left;
    }

    private void shuffle(int seed, int cards) {
        for (int i = 0; i < cards; i++) {
            deck[i] = i;
        }
        int x = seed;
        for (int i = cards - 1; i >= 1; i--) {
            x = x * 22695477 + 1;
            int other = (x >>> 16) % (i + 1);
            int kept = deck[i];
            deck[i] = deck[other];
            deck[other] = kept;
        }
    }

    public boolean put(int card, int place) {
        if (!dealt || card < 0 || card >= machine.game.cards || place < 0 || place >= PLACES) {
            return false;
        }
        table.raise(card, place);
        bestMove = NONE;
        return true;
    }

    public int moves() {
        return dealt ? machine.listMoves(table, listed) : 0;
    }

    public int move(int i, boolean card) throws IndexOutOfBoundsException {
        int found = findMove(i);
        return card ? cardOf(found) : ruleOf(found);
    }

    private int findMove(int i) {
        if (i < 0 || i >= moves()) {
            throw new IndexOutOfBoundsException("no such move");
        }
        return listed[i];
    }

    private static int ruleOf(int move) {
        return move / MOVE_STEP;
    }

    private static int cardOf(int move) {
        return move % MOVE_STEP - 1;
    }

    public int act(int i) throws IndexOutOfBoundsException, IllegalStateException {
        int found = findMove(i);
        if (made >= MOVE_LIMIT) {
            throw new IllegalStateException("too many moves were made");
        }
        history[made].copyFrom(table);
        machine.makeMove(table, found);
        made++;
        bestMove = NONE;
        return made;
    }

    public boolean undo() {
        if (made == 0) {
            return false;
        }
        made--;
        table.copyFrom(history[made]);
        bestMove = NONE;
        return true;
    }

    public int card(int place, int i) {
        if (!dealt || place < 0 || place >= PLACES) {
            return NONE;
        }
        return i == -1 ? table.sizeOf(place) : table.cardAt(place, i);
    }

    public int seen(int seat, int place, int i) {
        if (seat < 0 || seat >= SEATS) {
            return NONE;
        }
        boolean hidden = place == STOCK || place == 1 - seat;
        return hidden && i != -1 ? NONE : card(place, i);
    }

    public int counter(int k) throws IndexOutOfBoundsException {
        if (k < 0 || k >= COUNTERS + SEATS) {
            throw new IndexOutOfBoundsException("no such counter");
        }
        if (!dealt) {
            return 0;
        }
        return k < COUNTERS ? table.counters[k] : table.scores[k - COUNTERS];
    }

    public int look(int which) {
        switch (which) {
            case 0:
                return reader.length;
            case 1:
                return machine.game.length;
            case 2:
                return machine.game.cards;
            case 3:
                return machine.game.rules;
            case 4:
                return dealt ? 1 : 0;
            case 5:
                return dealt ? table.turn : NONE;
            case 6:
                return dealt ? (moves() == 0 ? 1 : 0) : NONE;
            case 7:
                return made;
            default:
                return NONE;
        }
    }

    public int solve(int budget) throws IllegalStateException, IllegalArgumentException, UnsupportedOperationException {
        if (!dealt) {
            throw new IllegalStateException("nothing was dealt");
        }
        if (budget < 1 || budget > BUDGET_LIMIT) {
            throw new IllegalArgumentException("the budget is not 1 .. 2000");
        }
        int value = solver.valueOf(machine, table, budget);
        bestMove = solver.firstBest;
        return value;
    }

    public int best() {
        return bestMove;
    }

    /** What a text was compiled to; without a game all its numbers are 0. */
    private static final class Game {
        private final int[] operations = new int[CODE_LIMIT];
        private final int[] arguments = new int[CODE_LIMIT];
        /** Counts on behind the limit: only the whole text tells whether it is a game at all. */
        private int length = 0;
        private int cards = 0;
        private int ranks = 0;
        private int rules = 0;
        /** The letters of the rules, M or P. */
        private final int[] kinds = new int[RULE_LIMIT];
        private final int[] guards = new int[RULE_LIMIT];
        private final int[] effects = new int[RULE_LIMIT];
        private int ending = 0;

        private void emit(int operation, int argument) {
            if (length < CODE_LIMIT) {
                operations[length] = operation;
                arguments[length] = argument;
            }
            length++;
        }

        private void copyFrom(Game other) {
            System.arraycopy(other.operations, 0, operations, 0, CODE_LIMIT);
            System.arraycopy(other.arguments, 0, arguments, 0, CODE_LIMIT);
            System.arraycopy(other.kinds, 0, kinds, 0, RULE_LIMIT);
            System.arraycopy(other.guards, 0, guards, 0, RULE_LIMIT);
            System.arraycopy(other.effects, 0, effects, 0, RULE_LIMIT);
            length = other.length;
            cards = other.cards;
            ranks = other.ranks;
            rules = other.rules;
            ending = other.ending;
        }
    }

    /**
     * Holds the text, reads it from left to right and compiles it; throws if it is no game.
     * It writes into a draft, so that a wrong text leaves the game in the workshop as it is.
     */
    private static final class Reader {
        private static final String OPERATORS = "|&<=+-*";
        private static final int[] OPERATOR_LEVELS = {0, 1, 2, 2, 3, 3, 4};
        private static final int[] OPERATOR_CODES = {OR, AND, LESS, SAME, ADD, SUB, MUL};
        private static final int COMPARING_LEVEL = 2;
        private static final int UNIT_LEVEL = 5;

        private final char[] text = new char[TEXT_LIMIT];
        private int length = 0;
        private final Game draft = new Game();
        private int position = 0;
        private boolean choosing = false;

        private void append(char c) {
            if (length < text.length) {
                text[length] = c;
                length++;
            }
        }

        private void readGame() {
            position = 0;
            draft.length = 0;
            draft.rules = 0;
            expect('D');
            int suits = readDigit(SUIT_LIMIT);
            draft.ranks = readDigit(RANK_LIMIT);
            draft.cards = suits * draft.ranks;
            expect(';');
            for (int k = 0; k < RULE_LIMIT && (next() == 'M' || next() == 'P'); k++) {
                readRule(k);
            }
            expect('E');
            choosing = false;
            draft.ending = draft.length;
            readExpr(0, 0);
            draft.emit(END, 0);
            expect(';');
            if (position < length) {
                throw new IllegalArgumentException("there is more behind the game");
            }
        }

        private void readRule(int k) {
            choosing = next() == 'M';
            draft.kinds[k] = next();
            draft.rules = k + 1;
            position++;
            draft.guards[k] = draft.length;
            readExpr(0, 0);
            draft.emit(END, 0);
            expect(':');
            draft.effects[k] = draft.length;
            if (next() != ';') {
                readEffect();
                for (int n = 0; n < TEXT_LIMIT && take(','); n++) {
                    readEffect();
                }
            }
            draft.emit(END, 0);
            expect(';');
        }

        private void readEffect() {
            int counter = COUNTER_NAMES.indexOf(next());
            if (take('n')) {
                draft.emit(TURN, 0);
            } else if (take('+')) {
                readExpr(0, 0);
                draft.emit(SCORE, 0);
            } else if (counter >= 0) {
                position++;
                expect('=');
                readExpr(0, 0);
                draft.emit(SET, counter);
            } else {
                int from = readZone(choosing);
                expect('>');
                draft.emit(MOVE, ZONE_STEP * from + readZone(false));
            }
        }

        /** Level 0 joins by |, 1 by &, 2 compares (once), 3 adds and subtracts, 4 multiplies. */
        private void readExpr(int level, int brackets) {
            if (level >= UNIT_LEVEL) {
                readUnit(brackets);
                return;
            }
            readExpr(level + 1, brackets);
            for (int n = 0; n < TEXT_LIMIT; n++) {
                int which = OPERATORS.indexOf(next());
                if (which < 0 || OPERATOR_LEVELS[which] != level) {
                    return;
                }
                position++;
                readExpr(level + 1, brackets);
                draft.emit(OPERATOR_CODES[which], 0);
                if (level == COMPARING_LEVEL) {
                    return;
                }
            }
        }

        private void readUnit(int brackets) {
            int nots = 0;
            while (nots < NOT_LIMIT && take('!')) {
                nots++;
            }
            int counter = COUNTER_NAMES.indexOf(next());
            if (counter >= 0) {
                position++;
                draft.emit(GET, counter);
            } else if (take('#')) {
                draft.emit(COUNT, readZone(false));
            } else if (take('r')) {
                draft.emit(RANK, readZone(choosing));
            } else if (take('u')) {
                draft.emit(SUIT, readZone(choosing));
            } else if (brackets < BRACKET_LIMIT && take('(')) {
                readExpr(0, brackets + 1);
                expect(')');
            } else {
                draft.emit(NUM, readNumber());
            }
            for (int n = 0; n < nots; n++) {
                draft.emit(NOT, 0);
            }
        }

        private int readNumber() {
            int number = 0;
            int digits = 0;
            while (digits < DIGIT_LIMIT && next() >= '0' && next() <= '9') {
                number = number * 10 + (next() - '0');
                position++;
                digits++;
            }
            // a fourth digit needs no test here: nothing in the grammar goes on with one
            if (digits == 0) {
                throw new IllegalArgumentException("no unit where one is due");
            }
            return number;
        }

        private int readZone(boolean orChosen) {
            int zone = orChosen && next() == 'c' ? CHOSEN : ZONE_NAMES.indexOf(next());
            if (zone < 0) {
                throw new IllegalArgumentException("no zone where one is due");
            }
            position++;
            return zone;
        }

        private int readDigit(int most) {
            int digit = next() - '0';
            if (digit < 1 || digit > most) {
                throw new IllegalArgumentException("a digit is missing or too great");
            }
            position++;
            return digit;
        }

        private void expect(char c) {
            if (next() != c) {
                throw new IllegalArgumentException("a character is missing");
            }
            position++;
        }

        private boolean take(char c) {
            if (next() != c) {
                return false;
            }
            position++;
            return true;
        }

        /** The character 0, which no text holds, stands for the end of the text. */
        private char next() {
            return position < length && position < text.length ? text[position] : (char) 0;
        }
    }

    /**
     * A position. Each place is a chain from its top card down, which makes tops quick to
     * find and keeps a copy small.
     */
    private static final class Table {
        private final int[] places = new int[CARD_LIMIT];
        private final int[] below = new int[CARD_LIMIT];
        private final int[] tops = new int[PLACES];
        private final int[] sizes = new int[PLACES];
        private final int[] counters = new int[COUNTERS];
        private final int[] scores = new int[SEATS];
        private int turn = 0;

        private void clear() {
            Arrays.fill(places, NONE);
            Arrays.fill(below, NONE);
            Arrays.fill(tops, NONE);
            Arrays.fill(sizes, 0);
            Arrays.fill(counters, 0);
            Arrays.fill(scores, 0);
            turn = 0;
        }

        private void copyFrom(Table other) {
            System.arraycopy(other.places, 0, places, 0, CARD_LIMIT);
            System.arraycopy(other.below, 0, below, 0, CARD_LIMIT);
            System.arraycopy(other.tops, 0, tops, 0, PLACES);
            System.arraycopy(other.sizes, 0, sizes, 0, PLACES);
            System.arraycopy(other.counters, 0, counters, 0, COUNTERS);
            System.arraycopy(other.scores, 0, scores, 0, SEATS);
            turn = other.turn;
        }

        /** Puts a card that lies nowhere on top of a place. */
        private void lay(int card, int place) {
            if (card < 0 || card >= CARD_LIMIT || place < 0 || place >= PLACES) {
                return;
            }
            places[card] = place;
            below[card] = tops[place];
            tops[place] = card;
            sizes[place]++;
        }

        /** Takes a card out of its place and puts it on top of one. */
        private void raise(int card, int place) {
            takeOut(card);
            lay(card, place);
        }

        private void takeOut(int card) {
            int from = card < 0 || card >= CARD_LIMIT ? NONE : places[card];
            if (from < 0 || from >= PLACES) {
                return;
            }
            sizes[from]--;
            if (tops[from] == card) {
                tops[from] = below[card];
            }
            for (int above = 0; above < CARD_LIMIT; above++) {
                if (below[above] == card) {
                    below[above] = below[card];
                }
            }
        }

        private int sizeOf(int place) {
            return place < 0 || place >= PLACES ? 0 : sizes[place];
        }

        private int topOf(int place) {
            return place < 0 || place >= PLACES ? NONE : tops[place];
        }

        private int counterAt(int k) {
            return k < 0 || k >= COUNTERS ? 0 : counters[k];
        }

        private void setCounter(int k, int value) {
            if (k >= 0 && k < COUNTERS) {
                counters[k] = value;
            }
        }

        private void addScore(int seat, int more) {
            if (seat >= 0 && seat < SEATS) {
                scores[seat] += more;
            }
        }

        private int cardAt(int place, int i) {
            int size = sizeOf(place);
            if (i < 0 || i >= size) {
                return NONE;
            }
            int found = topOf(place);
            for (int k = size - 1; k > i && found >= 0 && found < CARD_LIMIT; k--) {
                found = below[found];
            }
            return found;
        }
    }

    /** The machine with a stack that runs a game's code on a table. */
    private static final class Machine {
        private final Game game = new Game();
        /** Each instruction pushes one number at most, so the code's limit is enough. */
        private final int[] stack = new int[CODE_LIMIT];
        private int height = 0;

        /** Writes the moves into a row and tells how many there are: 0 just if the game is over. */
        private int listMoves(Table table, int[] row) {
            if (run(table, game.ending, NONE) != 0) {
                return 0;
            }
            int count = 0;
            for (int rule = 0; rule < game.rules; rule++) {
                boolean choosing = game.kinds[rule] == 'M';
                int first = choosing ? 0 : NONE;
                int last = choosing ? game.cards - 1 : NONE;
                for (int card = first; card <= last; card++) {
                    boolean open = card == NONE || table.places[card] == table.turn;
                    if (open && count < row.length && run(table, game.guards[rule], card) != 0) {
                        row[count] = rule * MOVE_STEP + card + 1;
                        count++;
                    }
                }
            }
            return count;
        }

        private void makeMove(Table table, int move) {
            int rule = ruleOf(move);
            if (rule >= 0 && rule < game.rules) {
                run(table, game.effects[rule], cardOf(move));
            }
        }

        /** Runs from an instruction to the next END; answers what lies on the stack then, or 0. */
        private int run(Table table, int start, int chosen) {
            // the zones hang on the seat that moves, even behind an n
            int seat = table.turn;
            height = 0;
            for (int k = start; k < game.length && game.operations[k] != END; k++) {
                int operation = game.operations[k];
                int argument = game.arguments[k];
                if (operation <= SUIT) {
                    push(operand(operation, argument, table, seat, chosen));
                } else if (operation <= OR) {
                    int right = pop();
                    push(combine(operation, pop(), right));
                } else if (operation == NOT) {
                    push(pop() == 0 ? 1 : 0);
                } else {
                    doEffect(operation, argument, table, seat, chosen);
                }
            }
            return pop();
        }

        private void push(int value) {
            if (height < stack.length) {
                stack[height] = value;
                height++;
            }
        }

        private int pop() {
            if (height == 0) {
                return 0;
            }
            height--;
            return stack[height];
        }

        private int operand(int operation, int argument, Table table, int seat, int chosen) {
            switch (operation) {
                case GET:
                    return table.counterAt(argument);
                case COUNT:
                    return table.sizeOf(placeOf(argument, seat));
                case RANK:
                case SUIT:
                    int card = argument == CHOSEN ? chosen : table.topOf(placeOf(argument, seat));
                    if (card < 0 || game.ranks < 1) {
                        return NONE;
                    }
                    return operation == RANK ? card % game.ranks : card / game.ranks;
                default:
                    return argument;
            }
        }

        private static int combine(int operation, int left, int right) {
            switch (operation) {
                case ADD:
                    return left + right;
                case SUB:
                    return left - right;
                case MUL:
                    return left * right;
                case LESS:
                    return left < right ? 1 : 0;
                case SAME:
                    return left == right ? 1 : 0;
                case AND:
                    return left != 0 && right != 0 ? 1 : 0;
                default:
                    return left != 0 || right != 0 ? 1 : 0;
            }
        }

        private void doEffect(int operation, int argument, Table table, int seat, int chosen) {
            switch (operation) {
                case MOVE:
                    int from = argument / ZONE_STEP;
                    int card = from == CHOSEN ? chosen : table.topOf(placeOf(from, seat));
                    if (card >= 0) {
                        table.raise(card, placeOf(argument % ZONE_STEP, seat));
                    }
                    break;
                case SET:
                    table.setCounter(argument, pop());
                    break;
                case SCORE:
                    table.addScore(seat, pop());
                    break;
                default:
                    table.turn = 1 - seat;
                    break;
            }
        }

        private static int placeOf(int zone, int seat) {
            switch (zone) {
                case 0:
                    return seat;
                case 1:
                    return 1 - seat;
                case 2:
                    return STOCK;
                case 3:
                    return TABLE;
                case 4:
                    return PILES + seat;
                default:
                    return PILES + 1 - seat;
            }
        }
    }

    /** Looks at all that can come of a position, on tables of its own: one for each depth. */
    private static final class Solver {
        private final Table[] tables = new Table[DEPTH_LIMIT + 1];
        private final int[][] rows = new int[DEPTH_LIMIT + 1][LIST_LIMIT];
        private int left = 0;
        /** The root is the last to write this, as it ends last. */
        private int firstBest = NONE;

        private Solver() {
            for (int k = 0; k <= DEPTH_LIMIT; k++) {
                tables[k] = new Table();
            }
        }

        private int valueOf(Machine machine, Table table, int budget) {
            left = budget - 1;
            tables[0].copyFrom(table);
            return valueAt(machine, 0);
        }

        private int valueAt(Machine machine, int depth) {
            Table here = tables[depth];
            int[] row = rows[depth];
            int count = machine.listMoves(here, row);
            if (count == 0) {
                firstBest = NONE;
                return here.scores[0] - here.scores[1];
            }
            if (count > left || depth >= DEPTH_LIMIT) {
                throw new UnsupportedOperationException("too many positions, or one too deep");
            }
            left -= count;
            int value = 0;
            int first = NONE;
            for (int k = 0; k < count; k++) {
                tables[depth + 1].copyFrom(here);
                machine.makeMove(tables[depth + 1], row[k]);
                int behind = valueAt(machine, depth + 1);
                boolean better = here.turn == 0 ? behind > value : behind < value;
                if (first == NONE || better) {
                    value = behind;
                    first = k;
                }
            }
            firstBest = first;
            return value;
        }
    }
}
