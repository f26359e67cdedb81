/** The calls of the public face, so that one test can ask the class and the model the same. */
interface Face {
    boolean type(long part);

    void wipe();

    int compile();

    int code(int k, boolean argument);

    int deal(int seed, int n);

    boolean put(int card, int place);

    int moves();

    int move(int i, boolean card);

    int act(int i);

    boolean undo();

    int card(int place, int i);

    int seen(int seat, int place, int i);

    int counter(int k);

    int look(int which);

    int solve(int budget);

    int best();

    static Face of(CardWorkshop x) {
        return new Face() {
            public boolean type(long part) { return x.type(part); }
            public void wipe() { x.wipe(); }
            public int compile() { return x.compile(); }
            public int code(int k, boolean argument) { return x.code(k, argument); }
            public int deal(int seed, int n) { return x.deal(seed, n); }
            public boolean put(int card, int place) { return x.put(card, place); }
            public int moves() { return x.moves(); }
            public int move(int i, boolean card) { return x.move(i, card); }
            public int act(int i) { return x.act(i); }
            public boolean undo() { return x.undo(); }
            public int card(int place, int i) { return x.card(place, i); }
            public int seen(int seat, int place, int i) { return x.seen(seat, place, i); }
            public int counter(int k) { return x.counter(k); }
            public int look(int which) { return x.look(which); }
            public int solve(int budget) { return x.solve(budget); }
            public int best() { return x.best(); }
        };
    }

    static Face of(ModelWorkshop x) {
        return new Face() {
            public boolean type(long part) { return x.type(part); }
            public void wipe() { x.wipe(); }
            public int compile() { return x.compile(); }
            public int code(int k, boolean argument) { return x.code(k, argument); }
            public int deal(int seed, int n) { return x.deal(seed, n); }
            public boolean put(int card, int place) { return x.put(card, place); }
            public int moves() { return x.moves(); }
            public int move(int i, boolean card) { return x.move(i, card); }
            public int act(int i) { return x.act(i); }
            public boolean undo() { return x.undo(); }
            public int card(int place, int i) { return x.card(place, i); }
            public int seen(int seat, int place, int i) { return x.seen(seat, place, i); }
            public int counter(int k) { return x.counter(k); }
            public int look(int which) { return x.look(which); }
            public int solve(int budget) { return x.solve(budget); }
            public int best() { return x.best(); }
        };
    }
}
