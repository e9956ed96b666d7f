/** The program behind a count of its calls: the document promises nothing after the 512th. */
final class CountedShips implements Ships {
    static final int MOST_CALLS = 512;

    private final WindCardShips ships = new WindCardShips();
    private int calls;

    /** The object itself, for one call, which is counted. */
    WindCardShips next() {
        if (calls >= MOST_CALLS) {
            throw new IllegalStateException("a test asks an object more than " + MOST_CALLS + " calls");
        }
        calls++;
        return ships;
    }

    int callsLeft() {
        return MOST_CALLS - calls;
    }

    @Override
    public int setIsland(int hex, int is) {
        return next().setIsland(hex, is);
    }

    @Override
    public int addShip(int captain, int hex, int heading, int sails, int crew, int guns) {
        return next().addShip(captain, hex, heading, sails, crew, guns);
    }

    @Override
    public int setTimber(int captain, int timber) {
        return next().setTimber(captain, timber);
    }

    @Override
    public int tell(int captain, int card) {
        return next().tell(captain, card);
    }

    @Override
    public int sail(int ship, int path) {
        return next().sail(ship, path);
    }

    @Override
    public int fire(int ship, int side, int target) {
        return next().fire(ship, side, target);
    }

    @Override
    public int grapple(int ship, int other) {
        return next().grapple(ship, other);
    }

    @Override
    public int cut(int ship) {
        return next().cut(ship);
    }

    @Override
    public int repair(int ship, int what) {
        return next().repair(ship, what);
    }

    @Override
    public int end() {
        return next().end();
    }

    @Override
    public int take(int slot) {
        return next().take(slot);
    }

    @Override
    public int restore(int slot) {
        return next().restore(slot);
    }

    @Override
    public int undo() {
        return next().undo();
    }

    @Override
    public int append(int character) {
        return next().append(character);
    }

    @Override
    public int clearText() {
        return next().clearText();
    }

    @Override
    public int carryOut() {
        return next().carryOut();
    }

    @Override
    public int count(int what) {
        return next().count(what);
    }

    @Override
    public int captain(int captain, int what) {
        return next().captain(captain, what);
    }

    @Override
    public int ship(int ship, int what) {
        return next().ship(ship, what);
    }

    @Override
    public int on(int hex) {
        return next().on(hex);
    }

    @Override
    public int targets(int ship, int side) {
        return next().targets(ship, side);
    }

    @Override
    public int hits(int ship, int side, int target) {
        return next().hits(ship, side, target);
    }

    @Override
    public int way(int ship, int hex, int what) {
        return next().way(ship, hex, what);
    }

    @Override
    public int reach(int ship) {
        return next().reach(ship);
    }

    @Override
    public int windBy(int one, int other) {
        return next().windBy(one, other);
    }

    @Override
    public int bestCard(int ship, int hex, int what) {
        return next().bestCard(ship, hex, what);
    }

    @Override
    public int threats(int ship) {
        return next().threats(ship);
    }

    @Override
    public int strength(int captain) {
        return next().strength(captain);
    }
}
