import java.util.Arrays;

/** Sailing ships of two captains on a board of hexes, under a wind that their cards turn. */
public final class WindCardShips {
    public static final int INVALID_ARGUMENT = -1;
    public static final int ILLEGAL_STATE = -2;
    public static final int CAPACITY_EXCEEDED = -3;
    public static final int NONE = -9;

    private static final int FAULT_BASE = -1000;

    private final State state = new State();
    private final History history = new History();
    private final Orders orders = new Orders();
    private final Routes routes = new Routes();

    public WindCardShips() {
    }

    // ---- setting up

    public int setIsland(int hex, int is) {
        history.keepAside(state);
        return history.settle(state.game.placeIsland(hex, is));
    }

    public int addShip(int captain, int hex, int heading, int sails, int crew, int guns) {
        history.keepAside(state);
        return history.settle(state.game.launch(captain, hex, heading, sails, crew, guns));
    }

    public int setTimber(int captain, int timber) {
        history.keepAside(state);
        return history.settle(state.game.stockTimber(captain, timber));
    }

    // ---- a turn

    public int tell(int captain, int card) {
        history.keepAside(state);
        return history.settle(state.game.tellCard(captain, card));
    }

    public int sail(int ship, int path) {
        history.keepAside(state);
        return history.settle(state.game.sailAlong(ship, path));
    }

    public int fire(int ship, int side, int target) {
        history.keepAside(state);
        return history.settle(state.game.fireAt(ship, side, target));
    }

    public int grapple(int ship, int other) {
        history.keepAside(state);
        return history.settle(state.game.grappleTwo(ship, other));
    }

    public int cut(int ship) {
        history.keepAside(state);
        return history.settle(state.game.cutLoose(ship));
    }

    public int repair(int ship, int what) {
        history.keepAside(state);
        return history.settle(state.game.mend(ship, what));
    }

    public int end() {
        history.keepAside(state);
        return history.settle(state.game.endTurn());
    }

    // ---- snapshots

    public int take(int slot) {
        history.keepAside(state);
        return history.settle(state.fillSlot(slot));
    }

    public int restore(int slot) {
        history.keepAside(state);
        return history.settle(state.resumeSlot(slot));
    }

    public int undo() {
        return history.stepBack(state);
    }

    // ---- text

    public int append(int character) {
        return orders.addSign(character);
    }

    public int clearText() {
        return orders.dropSigns();
    }

    public int carryOut() {
        int fault = orders.fault();
        if (fault != Orders.NO_FAULT) {
            return FAULT_BASE - fault;
        }
        history.keepAside(state);
        int done = 0;
        orders.rewind();
        for (int i = 0; i < Orders.MOST_SIGNS && orders.readOrder(); i++) {
            if (orders.obey(state.game) < 0) {
                break;
            }
            done++;
            orders.readSeparator();
        }
        orders.dropSigns();
        return history.settle(done);
    }

    // ---- looking

    public int count(int what) {
        switch (what) {
            case 9:
                return Integer.bitCount(state.taken);
            case 10:
                return history.size();
            case 11:
                return orders.length();
            default:
                return state.game.tally(what);
        }
    }

    public int captain(int captain, int what) {
        return Captain.exists(captain) ? state.game.tellOfCaptain(captain, what) : INVALID_ARGUMENT;
    }

    public int ship(int ship, int what) {
        Ship one = state.game.known(ship);
        return one == null ? INVALID_ARGUMENT : state.game.tellOfShip(one, what);
    }

    public int on(int hex) {
        return Hexes.exists(hex) ? state.game.contentOf(hex) : INVALID_ARGUMENT;
    }

    // ---- what could be

    public int targets(int ship, int side) {
        Ship one = state.game.known(ship);
        return one == null || !Ship.hasSide(side) ? INVALID_ARGUMENT : state.game.targetSet(one, side);
    }

    public int hits(int ship, int side, int target) {
        Ship one = state.game.known(ship);
        Ship victim = state.game.known(target);
        if (one == null || victim == null || ship == target || !Ship.hasSide(side)) {
            return INVALID_ARGUMENT;
        }
        int distance = state.game.shotLength(one, side, victim);
        return distance == Game.NO_SHOT ? NONE : one.hitsFrom(distance);
    }

    public int way(int ship, int hex, int what) {
        Ship one = state.game.known(ship);
        if (one == null || !Hexes.exists(hex) || what < 0 || what > 2) {
            return INVALID_ARGUMENT;
        }
        routes.explore(state.game, one, state.game.stepsNow(one));
        return routes.tellOfWay(hex, what);
    }

    public int reach(int ship) {
        Ship one = state.game.known(ship);
        if (one == null) {
            return INVALID_ARGUMENT;
        }
        routes.explore(state.game, one, state.game.stepsNow(one));
        return routes.reachedHexes();
    }

    public int windBy(int one, int other) {
        if (!Captain.isCard(one) || !Captain.isCard(other)) {
            return INVALID_ARGUMENT;
        }
        int sum = one + other;
        return 10 * state.game.directionBy(sum) + Game.strengthBy(sum);
    }

    public int bestCard(int ship, int hex, int what) {
        Ship one = state.game.known(ship);
        if (one == null || !Hexes.exists(hex) || what < 0 || what > 1) {
            return INVALID_ARGUMENT;
        }
        // How long the shortest path is does not hang on the wind: the wind only bounds it.
        routes.explore(state.game, one, Routes.MOST_STEPS);
        return state.game.cardFor(one, routes.fewestSteps(hex), what);
    }

    public int threats(int ship) {
        Ship one = state.game.known(ship);
        return one == null ? INVALID_ARGUMENT : state.game.threatSet(one);
    }

    public int strength(int captain) {
        return Captain.exists(captain) ? state.game.strengthOf(captain) : INVALID_ARGUMENT;
    }

    /** The geometry of the board; NONE stands for a hex that does not exist. */
    private static final class Hexes {
        static final int SIZE = 9;
        static final int NUMBER = 81;
        static final int DIRECTIONS = 6;

        static boolean exists(int hex) {
            return hex >= 0 && hex < NUMBER;
        }

        static boolean isDirection(int direction) {
            return direction >= 0 && direction < DIRECTIONS;
        }

        static int next(int hex, int direction) {
            if (!exists(hex) || !isDirection(direction)) {
                return NONE;
            }
            int row = hex / SIZE + rowStep(direction);
            int column = hex % SIZE + columnStep(direction);
            boolean onBoard = row >= 0 && row < SIZE && column >= 0 && column < SIZE;
            return onBoard ? row * SIZE + column : NONE;
        }

        static boolean areNeighbors(int hex, int other) {
            for (int direction = 0; direction < DIRECTIONS; direction++) {
                if (exists(other) && next(hex, direction) == other) {
                    return true;
                }
            }
            return false;
        }

        private static int rowStep(int direction) {
            if (direction == 1 || direction == 2) {
                return 1;
            }
            return direction == 4 || direction == 5 ? -1 : 0;
        }

        private static int columnStep(int direction) {
            if (direction == 0 || direction == 5) {
                return 1;
            }
            return direction == 2 || direction == 3 ? -1 : 0;
        }
    }

    /** A path: a number whose decimal digits are its steps. */
    private static final class Path {
        static final int AHEAD = 1;
        static final int UP = 2;
        static final int DOWN = 3;
        static final int GREATEST = 999999;

        static boolean isPath(int path) {
            if (path <= 0 || path > GREATEST) {
                return false;
            }
            for (int rest = path; rest > 0; rest /= 10) {
                int step = rest % 10;
                if (step < AHEAD || step > DOWN) {
                    return false;
                }
            }
            return true;
        }

        static int stepsOf(int path) {
            int steps = 0;
            for (int rest = path; rest > 0; rest /= 10) {
                steps++;
            }
            return steps;
        }

        /** The power of ten that stands at the first digit. */
        static int unitOf(int path) {
            int unit = 1;
            for (int rest = path / 10; rest > 0; rest /= 10) {
                unit *= 10;
            }
            return unit;
        }

        static int turned(int heading, int step) {
            if (step == UP) {
                return heading == Hexes.DIRECTIONS - 1 ? 0 : heading + 1;
            }
            if (step == DOWN) {
                return heading == 0 ? Hexes.DIRECTIONS - 1 : heading - 1;
            }
            return heading;
        }
    }

    /** What a captain has beside the ships. */
    private static final class Captain {
        static final int CARDS = 6;
        static final int FULL_HAND = 63;
        static final int MOST_TIMBER = 99;

        int hand = FULL_HAND;
        int card = NONE;
        int timber = 10;

        static boolean exists(int captain) {
            return captain == 0 || captain == 1;
        }

        static boolean isCard(int card) {
            return card >= 0 && card < CARDS;
        }

        void copyFrom(Captain other) {
            hand = other.hand;
            card = other.card;
            timber = other.timber;
        }

        boolean holds(int wanted) {
            return isCard(wanted) && (hand >> wanted & 1) == 1;
        }

        void layDownCard() {
            if (holds(card)) {
                hand -= 1 << card;
            }
            card = NONE;
            if (hand == 0) {
                hand = FULL_HAND;
            }
        }
    }

    /** A ship; one that has not been added yet has a hull of 0, so that it does not float. */
    private static final class Ship {
        static final int MOST_HULL = 20;
        static final int MOST_SAILS = 8;
        static final int MOST_CREW = 40;
        static final int MOST_GUNS = 9;
        static final int SAILED = 1;
        static final int FIRED = 2;
        static final int REPAIRED = 4;

        final int number;
        int captain;
        int hex;
        int heading;
        int hull;
        int sails;
        int crew;
        int guns;
        int grappledWith = NONE;
        /** The first turn in which each side can fire again. */
        int leftReady;
        int rightReady;
        /** What was done in this turn: SAILED, FIRED and REPAIRED added. */
        int done;

        Ship(int number) {
            this.number = number;
        }

        static boolean hasSide(int side) {
            return side == 0 || side == 1;
        }

        void copyFrom(Ship other) {
            captain = other.captain;
            hex = other.hex;
            heading = other.heading;
            hull = other.hull;
            sails = other.sails;
            crew = other.crew;
            guns = other.guns;
            grappledWith = other.grappledWith;
            leftReady = other.leftReady;
            rightReady = other.rightReady;
            done = other.done;
        }

        boolean floats() {
            return hull > 0;
        }

        boolean isGrappled() {
            return grappledWith != NONE;
        }

        boolean has(int deed) {
            return (done & deed) != 0;
        }

        int stepsBy(int windDirection, int windStrength) {
            if (!floats() || isGrappled()) {
                return 0;
            }
            return speedFactor(windDirection) * windStrength * Math.min(sails, crew) / 32;
        }

        private int speedFactor(int windDirection) {
            int turning = heading - windDirection;
            switch (turning < 0 ? turning + Hexes.DIRECTIONS : turning) {
                case 0:
                    return 6;
                case 1:
                case 5:
                    return 8;
                case 2:
                case 4:
                    return 4;
                default:
                    return 0;
            }
        }

        int hitsFrom(int distance) {
            return guns * (4 - distance) * Math.min(crew, 8) / 8;
        }

        void suffer(int shots) {
            hull = Math.max(0, hull - shots);
            crew = Math.max(0, crew - shots / 3);
            sails = Math.max(0, sails - shots / 4);
            guns = Math.max(0, guns - shots / 6);
        }

        void noteShot(int side, int turn) {
            if (side == 0) {
                leftReady = turn + 2;
            } else {
                rightReady = turn + 2;
            }
            done |= FIRED;
        }

        int reloadingSides(int turn) {
            return (turn < leftReady ? 1 : 0) + (turn < rightReady ? 2 : 0);
        }

        boolean isReloading(int side, int turn) {
            return turn < (side == 0 ? leftReady : rightReady);
        }
    }

    /** Everything that a snapshot keeps. */
    private static final class Game {
        static final int NO_SHOT = 0;
        private static final int MOST_SHIPS = 8;
        private static final int ISLAND_SIGN = 8;
        private static final int BOTH = 3;

        private int turn;
        private boolean moving;
        private int direction;
        private int windStrength = 2;
        private int shipCount;
        private int captures;
        private final Captain first = new Captain();
        private final Captain second = new Captain();
        private final int[] islands = new int[Hexes.NUMBER];
        private final Ship[] ships = new Ship[MOST_SHIPS];

        Game() {
            for (int i = 0; i < ships.length; i++) {
                ships[i] = new Ship(i);
            }
        }

        void copyFrom(Game other) {
            turn = other.turn;
            moving = other.moving;
            direction = other.direction;
            windStrength = other.windStrength;
            shipCount = other.shipCount;
            captures = other.captures;
            first.copyFrom(other.first);
            second.copyFrom(other.second);
            System.arraycopy(other.islands, 0, islands, 0, Hexes.NUMBER);
            for (int i = 0; i < MOST_SHIPS; i++) {
                ships[i].copyFrom(other.ships[i]);
            }
        }

        int turn() {
            return turn;
        }

        // ---- who and what is where

        private Captain captainOf(int captain) {
            return captain == 0 ? first : second;
        }

        /** The ship of this number, or null if none has been added with it. */
        Ship known(int number) {
            return number >= 0 && number < shipCount && number < ships.length ? ships[number] : null;
        }

        private Ship shipOn(int hex) {
            for (Ship one : ships) {
                if (one.floats() && one.hex == hex) {
                    return one;
                }
            }
            return null;
        }

        private boolean isIsland(int hex) {
            return Hexes.exists(hex) && islands[hex] == 1;
        }

        private boolean isFree(int hex) {
            return Hexes.exists(hex) && !isIsland(hex) && shipOn(hex) == null;
        }

        /** The next hex ahead where this ship can go, or NONE; its own hex is free for it. */
        int hexAhead(Ship one, int hex, int heading) {
            int ahead = Hexes.next(hex, heading);
            boolean isOwn = ahead == one.hex && ahead != NONE;
            return isOwn || isFree(ahead) ? ahead : NONE;
        }

        int contentOf(int hex) {
            if (isIsland(hex)) {
                return ISLAND_SIGN;
            }
            Ship one = shipOn(hex);
            return one == null ? NONE : one.number;
        }

        // ---- setting up

        int placeIsland(int hex, int is) {
            if (!Hexes.exists(hex) || is < 0 || is > 1) {
                return INVALID_ARGUMENT;
            }
            if (shipOn(hex) != null) {
                return ILLEGAL_STATE;
            }
            islands[hex] = is;
            return islandCount();
        }

        int launch(int captain, int hex, int heading, int sails, int crew, int guns) {
            if (!Captain.exists(captain) || !Hexes.exists(hex) || !Hexes.isDirection(heading)
                    || sails < 1 || sails > Ship.MOST_SAILS || crew < 1 || crew > Ship.MOST_CREW
                    || guns < 0 || guns > Ship.MOST_GUNS) {
                return INVALID_ARGUMENT;
            }
            if (!isFree(hex)) {
                return ILLEGAL_STATE;
            }
            if (shipCount >= ships.length) {
                return CAPACITY_EXCEEDED;
            }
            Ship one = ships[shipCount];
            one.captain = captain;
            one.hex = hex;
            one.heading = heading;
            one.hull = Ship.MOST_HULL;
            one.sails = sails;
            one.crew = crew;
            one.guns = guns;
            shipCount++;
            return one.number;
        }

        int stockTimber(int captain, int timber) {
            if (!Captain.exists(captain) || timber < 0 || timber > Captain.MOST_TIMBER) {
                return INVALID_ARGUMENT;
            }
            Captain owner = captainOf(captain);
            int before = owner.timber;
            owner.timber = timber;
            return before;
        }

        // ---- cards and wind

        int tellCard(int captain, int card) {
            if (!Captain.exists(captain) || !Captain.isCard(card)) {
                return INVALID_ARGUMENT;
            }
            Captain teller = captainOf(captain);
            if (moving || teller.card != NONE || !teller.holds(card)) {
                return ILLEGAL_STATE;
            }
            teller.card = card;
            if (first.card != NONE && second.card != NONE) {
                beginMoves();
            }
            return toldSet();
        }

        private void beginMoves() {
            int sum = first.card + second.card;
            direction = directionBy(sum);
            windStrength = strengthBy(sum);
            first.layDownCard();
            second.layDownCard();
            moving = true;
        }

        int directionBy(int sum) {
            return (direction + sum) % Hexes.DIRECTIONS;
        }

        static int strengthBy(int sum) {
            return sum % 3 + 1;
        }

        private int toldSet() {
            if (moving) {
                return BOTH;
            }
            return (first.card == NONE ? 0 : 1) + (second.card == NONE ? 0 : 2);
        }

        // ---- sailing

        int stepsNow(Ship one) {
            return one.stepsBy(direction, windStrength);
        }

        int sailAlong(int ship, int path) {
            Ship one = known(ship);
            if (one == null || !Path.isPath(path)) {
                return INVALID_ARGUMENT;
            }
            if (!moving || !one.floats() || one.has(Ship.SAILED) || Path.stepsOf(path) > stepsNow(one)) {
                return ILLEGAL_STATE;
            }
            int hex = one.hex;
            int heading = one.heading;
            for (int unit = Path.unitOf(path); unit > 0; unit /= 10) {
                int step = path / unit % 10;
                heading = Path.turned(heading, step);
                hex = step == Path.AHEAD ? hexAhead(one, hex, heading) : hex;
                if (hex == NONE) {
                    return ILLEGAL_STATE;
                }
            }
            one.hex = hex;
            one.heading = heading;
            one.done |= Ship.SAILED;
            return hex;
        }

        // ---- broadsides

        int fireAt(int ship, int side, int target) {
            Ship one = known(ship);
            Ship victim = known(target);
            if (one == null || victim == null || ship == target || !Ship.hasSide(side)) {
                return INVALID_ARGUMENT;
            }
            int distance = shotLength(one, side, victim);
            if (!moving || !one.floats() || one.isReloading(side, turn) || distance == NO_SHOT) {
                return ILLEGAL_STATE;
            }
            int shots = one.hitsFrom(distance);
            victim.suffer(shots);
            if (!victim.floats()) {
                release(victim);
            }
            one.noteShot(side, turn);
            return shots;
        }

        /** How far the victim is along the lines of a side, or NO_SHOT if it can't be fired at. */
        int shotLength(Ship one, int side, Ship victim) {
            if (!one.floats() || one.captain == victim.captain) {
                return NO_SHOT;
            }
            int line = one.heading + (side == 0 ? 4 : 1);
            int distance = distanceAlong(one.hex, line % Hexes.DIRECTIONS, victim);
            if (distance != NO_SHOT) {
                return distance;
            }
            return distanceAlong(one.hex, (line + 1) % Hexes.DIRECTIONS, victim);
        }

        private int distanceAlong(int from, int line, Ship victim) {
            int hex = from;
            for (int distance = 1; distance <= 3; distance++) {
                hex = Hexes.next(hex, line);
                if (hex == NONE || isIsland(hex)) {
                    return NO_SHOT;
                }
                Ship met = shipOn(hex);
                if (met != null) {
                    return met.number == victim.number ? distance : NO_SHOT;
                }
            }
            return NO_SHOT;
        }

        int targetSet(Ship one, int side) {
            int set = 0;
            for (Ship victim : ships) {
                if (shotLength(one, side, victim) != NO_SHOT) {
                    set |= 1 << victim.number;
                }
            }
            return set;
        }

        int threatSet(Ship victim) {
            int set = 0;
            for (Ship one : ships) {
                if (shotLength(one, 0, victim) != NO_SHOT || shotLength(one, 1, victim) != NO_SHOT) {
                    set |= 1 << one.number;
                }
            }
            return set;
        }

        // ---- grapples

        int grappleTwo(int ship, int other) {
            Ship one = known(ship);
            Ship two = known(other);
            if (one == null || two == null || ship == other) {
                return INVALID_ARGUMENT;
            }
            boolean able = one.floats() && two.floats() && !one.isGrappled() && !two.isGrappled();
            if (!moving || !able || one.captain == two.captain || !Hexes.areNeighbors(one.hex, two.hex)
                    || 2 * one.crew < two.crew) {
                return ILLEGAL_STATE;
            }
            one.grappledWith = two.number;
            two.grappledWith = one.number;
            return one.crew + two.crew;
        }

        int cutLoose(int ship) {
            Ship one = known(ship);
            if (one == null) {
                return INVALID_ARGUMENT;
            }
            Ship other = known(one.grappledWith);
            if (!moving || other == null || one.crew < other.crew) {
                return ILLEGAL_STATE;
            }
            release(one);
            return other.number;
        }

        private void release(Ship one) {
            Ship other = known(one.grappledWith);
            if (other != null) {
                other.grappledWith = NONE;
            }
            one.grappledWith = NONE;
        }

        private void fight(Ship one, Ship other) {
            int loss = (other.crew + 3) / 4;
            int otherLoss = (one.crew + 3) / 4;
            one.crew = Math.max(0, one.crew - loss);
            other.crew = Math.max(0, other.crew - otherLoss);
            if (one.crew > 0 && other.crew > 0) {
                return;
            }
            if (one.crew > 0) {
                capture(one, other);
            } else if (other.crew > 0) {
                capture(other, one);
            }
            release(one);
        }

        private void capture(Ship winner, Ship prize) {
            int over = winner.crew / 2;
            winner.crew -= over;
            prize.crew += over;
            prize.captain = winner.captain;
            captures++;
        }

        // ---- repairs

        int mend(int ship, int what) {
            Ship one = known(ship);
            if (one == null || what < 0 || what > 2) {
                return INVALID_ARGUMENT;
            }
            if (!moving || !one.floats() || one.isGrappled() || one.done != 0) {
                return ILLEGAL_STATE;
            }
            Captain owner = captainOf(one.captain);
            int by = mendable(one, what, owner.timber);
            if (by <= 0) {
                return ILLEGAL_STATE;
            }
            if (what == 0) {
                one.hull += by;
            } else if (what == 1) {
                one.sails += by;
            } else {
                one.guns += by;
            }
            owner.timber -= by * (what + 1);
            one.done |= Ship.REPAIRED;
            return by;
        }

        private static int mendable(Ship one, int what, int timber) {
            if (what == 0) {
                return Math.min(timber, Math.min(one.crew / 4, Ship.MOST_HULL - one.hull));
            }
            if (what == 1) {
                return one.sails < Ship.MOST_SAILS && timber >= 2 ? 1 : 0;
            }
            return one.guns < Ship.MOST_GUNS && timber >= 3 ? 1 : 0;
        }

        // ---- the end of a turn

        int endTurn() {
            if (!moving) {
                return ILLEGAL_STATE;
            }
            for (Ship one : ships) {
                Ship other = known(one.grappledWith);
                if (other != null && one.number < other.number) {
                    fight(one, other);
                }
            }
            for (Ship one : ships) {
                one.done = 0;
            }
            moving = false;
            turn++;
            return turn;
        }

        // ---- looking

        int tally(int what) {
            switch (what) {
                case 0:
                    return turn;
                case 1:
                    return moving ? 1 : 0;
                case 2:
                    return direction;
                case 3:
                    return windStrength;
                case 4:
                    return toldSet();
                case 5:
                    return shipCount;
                case 6:
                    return fleetOf(0) | fleetOf(1);
                case 7:
                    return islandCount();
                case 8:
                    return captures;
                default:
                    return INVALID_ARGUMENT;
            }
        }

        private int islandCount() {
            int sum = 0;
            for (int is : islands) {
                sum += is;
            }
            return sum;
        }

        /** The set of the ships of a captain that float. */
        private int fleetOf(int captain) {
            int set = 0;
            for (Ship one : ships) {
                if (one.floats() && one.captain == captain) {
                    set |= 1 << one.number;
                }
            }
            return set;
        }

        private int hullsOf(int captain) {
            int sum = 0;
            for (Ship one : ships) {
                if (one.floats() && one.captain == captain) {
                    sum += one.hull;
                }
            }
            return sum;
        }

        int strengthOf(int captain) {
            // Counted in eighths, which keeps every part of the sum whole until the one cut.
            int eighths = 0;
            for (Ship one : ships) {
                if (one.floats() && one.captain == captain) {
                    eighths += 6 * one.hull + 4 * one.crew + one.guns * one.sails;
                }
            }
            return eighths / 8;
        }

        int tellOfCaptain(int captain, int what) {
            Captain one = captainOf(captain);
            switch (what) {
                case 0:
                    return one.hand;
                case 1:
                    return one.card;
                case 2:
                    return one.timber;
                case 3:
                    return fleetOf(captain);
                case 4:
                    return hullsOf(captain);
                default:
                    return INVALID_ARGUMENT;
            }
        }

        int tellOfShip(Ship one, int what) {
            switch (what) {
                case 0:
                    return one.captain;
                case 1:
                    return one.floats() ? one.hex : NONE;
                case 2:
                    return one.heading;
                case 3:
                    return one.hull;
                case 4:
                    return one.sails;
                case 5:
                    return one.crew;
                case 6:
                    return one.guns;
                case 7:
                    return one.grappledWith;
                case 8:
                    return stepsNow(one);
                case 9:
                    return one.reloadingSides(turn);
                case 10:
                    return one.done;
                default:
                    return INVALID_ARGUMENT;
            }
        }

        // ---- the best card

        /** The best card for a way of so many steps (0 if there is no way), or by how many it helps. */
        int cardFor(Ship one, int steps, int what) {
            Captain own = captainOf(one.captain);
            Captain other = captainOf(1 - one.captain);
            int best = NONE;
            int most = 0;
            for (int card = 0; card < Captain.CARDS && steps > 0; card++) {
                int helped = own.holds(card) ? cardsThatHelp(one, card, other, steps) : 0;
                if (helped > most) {
                    best = card;
                    most = helped;
                }
            }
            return what == 0 || best == NONE ? best : most;
        }

        private int cardsThatHelp(Ship one, int card, Captain other, int steps) {
            int helped = 0;
            for (int answer = 0; answer < Captain.CARDS; answer++) {
                int sum = card + answer;
                boolean fast = one.stepsBy(directionBy(sum), strengthBy(sum)) >= steps;
                if (fast && other.holds(answer)) {
                    helped++;
                }
            }
            return helped;
        }
    }

    /** Everything that the history keeps: the game and the slots. */
    private static final class State {
        final Game game = new Game();
        final Game firstSlot = new Game();
        final Game secondSlot = new Game();
        /** The set of slots that hold a snapshot. */
        int taken;

        void copyFrom(State other) {
            game.copyFrom(other.game);
            firstSlot.copyFrom(other.firstSlot);
            secondSlot.copyFrom(other.secondSlot);
            taken = other.taken;
        }

        int fillSlot(int slot) {
            if (slot < 0 || slot > 1) {
                return INVALID_ARGUMENT;
            }
            slotOf(slot).copyFrom(game);
            taken |= 1 << slot;
            return game.turn();
        }

        int resumeSlot(int slot) {
            if (slot < 0 || slot > 1) {
                return INVALID_ARGUMENT;
            }
            if ((taken >> slot & 1) == 0) {
                return ILLEGAL_STATE;
            }
            game.copyFrom(slotOf(slot));
            return game.turn();
        }

        private Game slotOf(int slot) {
            return slot == 0 ? firstSlot : secondSlot;
        }
    }

    /** The latest states, the newest first. The rows are made once and change places. */
    private static final class History {
        private static final int MOST = 6;

        private final State[] rows = new State[MOST];
        private State aside = new State();
        private int size;

        History() {
            for (int i = 0; i < rows.length; i++) {
                rows[i] = new State();
            }
        }

        int size() {
            return size;
        }

        /** Keeps the state before an action, which is recorded only if the action succeeds. */
        void keepAside(State state) {
            aside.copyFrom(state);
        }

        /** Records what was kept aside unless the answer is an error, and hands the answer on. */
        int settle(int answer) {
            if (answer < 0) {
                return answer;
            }
            State oldest = rows[MOST - 1];
            for (int i = MOST - 1; i > 0; i--) {
                rows[i] = rows[i - 1];
            }
            rows[0] = aside;
            aside = oldest;
            size = Math.min(size + 1, MOST);
            return answer;
        }

        int stepBack(State state) {
            if (size == 0) {
                return ILLEGAL_STATE;
            }
            State latest = rows[0];
            state.copyFrom(latest);
            for (int i = 0; i < MOST - 1; i++) {
                rows[i] = rows[i + 1];
            }
            rows[MOST - 1] = latest;
            size--;
            return size;
        }
    }

    /** The text of orders, and what reads them one after another. */
    private static final class Orders {
        static final int MOST_SIGNS = 100;
        static final int NO_FAULT = -1;
        private static final int UNKNOWN = -1;
        private static final int MOST_DIGITS = 6;

        private final int[] signs = new int[MOST_SIGNS];
        private int length;
        /** The index of the sign that is read next. */
        private int at;
        private int letter;
        private int one;
        private int two;
        private int three;

        int length() {
            return length;
        }

        int addSign(int sign) {
            if (sign < 1 || sign > 255) {
                return INVALID_ARGUMENT;
            }
            if (length >= signs.length) {
                return CAPACITY_EXCEEDED;
            }
            signs[length] = sign;
            length++;
            return length;
        }

        int dropSigns() {
            int before = length;
            length = 0;
            return before;
        }

        void rewind() {
            at = 0;
        }

        boolean atEnd() {
            return at >= length;
        }

        /** The index of the first sign that is not allowed, the length if the text ends too early. */
        int fault() {
            rewind();
            for (int i = 0; i <= MOST_SIGNS; i++) {
                if (!readOrder()) {
                    return at;
                }
                if (atEnd()) {
                    return NO_FAULT;
                }
                if (!readSeparator()) {
                    return at;
                }
            }
            return at;
        }

        boolean readSeparator() {
            return readSign(';');
        }

        /** Reads one order; if it can't be read, the reading stands at the fault. */
        boolean readOrder() {
            letter = signAt(at);
            int numbers = numbersOf(letter);
            if (numbers == UNKNOWN) {
                return false;
            }
            at++;
            for (int i = 0; i < numbers; i++) {
                if (i > 0 && !readSign(',')) {
                    return false;
                }
                if (!isDigit(signAt(at))) {
                    return false;
                }
                keepNumber(i, readNumber());
            }
            return true;
        }

        private int signAt(int index) {
            return index >= 0 && index < length && index < signs.length ? signs[index] : UNKNOWN;
        }

        private boolean readSign(int wanted) {
            if (signAt(at) != wanted) {
                return false;
            }
            at++;
            return true;
        }

        private static boolean isDigit(int sign) {
            return sign >= '0' && sign <= '9';
        }

        private int readNumber() {
            int number = 0;
            // A number that begins with 0 is 0 alone: another digit behind it is a fault.
            int most = signAt(at) == '0' ? 1 : MOST_DIGITS;
            for (int i = 0; i < most && isDigit(signAt(at)); i++) {
                number = number * 10 + signAt(at) - '0';
                at++;
            }
            return number;
        }

        private void keepNumber(int place, int number) {
            if (place == 0) {
                one = number;
            } else if (place == 1) {
                two = number;
            } else {
                three = number;
            }
        }

        private static int numbersOf(int letter) {
            switch (letter) {
                case 'e':
                    return 0;
                case 'x':
                    return 1;
                case 't':
                case 's':
                case 'g':
                case 'r':
                    return 2;
                case 'f':
                    return 3;
                default:
                    return UNKNOWN;
            }
        }

        /** Carries out the order that was read last. */
        int obey(Game game) {
            switch (letter) {
                case 't':
                    return game.tellCard(one, two);
                case 's':
                    return game.sailAlong(one, two);
                case 'f':
                    return game.fireAt(one, two, three);
                case 'g':
                    return game.grappleTwo(one, two);
                case 'x':
                    return game.cutLoose(one);
                case 'r':
                    return game.mend(one, two);
                default:
                    return game.endTurn();
            }
        }
    }

    /** The shortest ways of a ship. A place is a hex with a heading on it. */
    private static final class Routes {
        static final int MOST_STEPS = 6;
        private static final int PLACES = Hexes.NUMBER * Hexes.DIRECTIONS;
        private static final int UNSEEN = -1;

        /** By which path a place was first come to; 0 for the place of the beginning. */
        private final int[] pathTo = new int[PLACES];
        private final int[] queue = new int[PLACES];
        /** The place in which a hex was first come to. */
        private final int[] arrival = new int[Hexes.NUMBER];
        private int queued;

        /**
         * Looks at the places by ascending steps, and among those by ascending paths: so the first
         * place found on a hex has the fewest steps and, of these, the least path.
         */
        void explore(Game game, Ship one, int most) {
            Arrays.fill(pathTo, UNSEEN);
            Arrays.fill(arrival, UNSEEN);
            queued = 0;
            note(one.hex, one.heading, 0);
            for (int next = 0; next < queued && next < queue.length; next++) {
                int place = queue[next];
                if (place >= 0 && place < pathTo.length && Path.stepsOf(pathTo[place]) < most) {
                    spread(game, one, place, pathTo[place] * 10);
                }
            }
        }

        private void spread(Game game, Ship one, int place, int path) {
            int hex = place / Hexes.DIRECTIONS;
            int heading = place % Hexes.DIRECTIONS;
            note(game.hexAhead(one, hex, heading), heading, path + Path.AHEAD);
            note(hex, Path.turned(heading, Path.UP), path + Path.UP);
            note(hex, Path.turned(heading, Path.DOWN), path + Path.DOWN);
        }

        private void note(int hex, int heading, int path) {
            if (!Hexes.exists(hex) || !Hexes.isDirection(heading) || queued >= queue.length) {
                return;
            }
            int place = hex * Hexes.DIRECTIONS + heading;
            if (pathTo[place] != UNSEEN) {
                return;
            }
            pathTo[place] = path;
            queue[queued] = place;
            queued++;
            if (arrival[hex] == UNSEEN) {
                arrival[hex] = place;
            }
        }

        /** The best path to a hex, or 0 if there is none or it is the hex of the beginning. */
        private int bestPath(int hex) {
            int place = Hexes.exists(hex) ? arrival[hex] : UNSEEN;
            return place >= 0 && place < pathTo.length ? pathTo[place] : 0;
        }

        int fewestSteps(int hex) {
            return Path.stepsOf(bestPath(hex));
        }

        int tellOfWay(int hex, int what) {
            int path = bestPath(hex);
            if (path == 0) {
                return NONE;
            }
            if (what == 0) {
                return path;
            }
            return what == 1 ? Path.stepsOf(path) : headingAt(hex);
        }

        private int headingAt(int hex) {
            return Hexes.exists(hex) ? arrival[hex] % Hexes.DIRECTIONS : NONE;
        }

        int reachedHexes() {
            int reached = 0;
            for (int hex = 0; hex < Hexes.NUMBER; hex++) {
                if (bestPath(hex) > 0) {
                    reached++;
                }
            }
            return reached;
        }
    }
}
