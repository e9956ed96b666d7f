import java.util.ArrayDeque;
import java.util.ArrayList;
import java.util.Arrays;
import java.util.Deque;
import java.util.HashSet;
import java.util.List;
import java.util.Set;
import java.util.TreeSet;
import java.util.function.ToIntFunction;
import java.util.regex.Matcher;
import java.util.regex.Pattern;

/**
 * Long runs of calls that are drawn from a fixed row of numbers, each answer compared with that of a
 * plain second model of the document, which shares nothing with the program: it copies whole games,
 * tries every path, and looks for the fault of a text by a pattern.
 */
public final class ModelRuns {
    private static final int RUNS = 1500;
    /** After so many acts of a run all that the methods tell is compared, each fifth time with all ways. */
    private static final int LOOKS_APART = 10;
    private static final int DEEP_LOOKS_APART = 5;
    /** So many calls have to be left to an object that has repeated a run, or it would tell too little. */
    private static final int CALLS_TO_LOOK = 100;
    /** Some more than a text can hold. */
    private static final int MOST_SIGNS = 105;
    /** The most calls that it takes to write a text and to carry it out. */
    private static final int CALLS_OF_TEXT = MOST_SIGNS + 3;
    private static final int NO_KIND = -1;

    private static long seed;
    private static int wrong = 0;
    private static long answers = 0;
    private static final int[] successes = new int[32];

    public static void main(String[] args) {
        Model.tellOfPaths();
        for (int run = 0; run < RUNS && wrong < 10; run++) {
            seed = 7919L * run + 17;
            new Run(run).go();
        }
        String[] names = {"setIsland", "addShip", "setTimber", "tell", "sail", "fire", "grapple", "cut", "repair",
            "end", "take", "restore", "undo", "append", "clearText", "carryOut", "sunk", "captured", "twice captured",
            "path of 3 or more", "carried out 3 or more", "stopped early", "way", "bestCard", "over the own hex"};
        StringBuilder told = new StringBuilder();
        for (int i = 0; i < names.length; i++) {
            told.append(names[i]).append(' ').append(successes[i]).append(i < names.length - 1 ? ", " : "");
            if (successes[i] < 50) {
                wrong++;
                System.out.println("too seldom: " + names[i]);
            }
        }
        System.out.println("successes: " + told);
        System.out.println(answers + " answers compared, " + wrong + " wrong");
        if (wrong != 0) {
            System.exit(1);
        }
    }

    private static int random(int below) {
        seed = seed * 6364136223846793005L + 1442695040888963407L;
        return (int) ((seed >>> 33) % below);
    }

    private static boolean chance(int percent) {
        return random(100) < percent;
    }

    private static int[] numbers(int low, int high) {
        int[] all = new int[Math.max(0, high - low + 1)];
        for (int i = 0; i < all.length; i++) {
            all[i] = low + i;
        }
        return all;
    }

    /** A call of a run, as it is told, as it is made, and the answer of the model. */
    private record Step(String text, ToIntFunction<Ships> call, int due) {
    }

    /**
     * One run: the program, the model, and the calls that were made. An object is asked no more calls
     * than the document tells about: so what is looked at on the way is asked of other objects, of
     * which each repeats the run so far and then has its last calls to be looked at.
     */
    private static final class Run {
        final int number;
        final CountedShips x = new CountedShips();
        final Model m = new Model();
        final List<Step> steps = new ArrayList<>();
        final boolean crowded = chance(50);
        final boolean small = chance(50);
        /** Another object that has repeated the run so far, or null if there is none. */
        CountedShips repeated;

        Run(int number) {
            this.number = number;
        }

        void go() {
            int ships = 2 + random(7);
            for (int i = 0; i < ships; i++) {
                launch();
            }
            for (int i = 0; i < (crowded ? 4 : 12); i++) {
                int hex = hex();
                same("setIsland(" + hex + ", 1)", s -> s.setIsland(hex, 1), 0);
            }
            int deep = random(DEEP_LOOKS_APART);
            for (int acts = 1; x.callsLeft() > 0 && wrong < 10; acts++) {
                act();
                if (acts % LOOKS_APART == 0 && x.callsLeft() >= CALLS_TO_LOOK) {
                    compareAll(acts / LOOKS_APART % DEEP_LOOKS_APART == deep);
                }
            }
        }

        /** A call of the run itself. */
        int same(String text, ToIntFunction<Ships> call, int kind) {
            int due = call.applyAsInt(m);
            steps.add(new Step(text, call, due));
            repeated = null;
            return compare(text, call.applyAsInt(x), due, kind);
        }

        /** A call that changes nothing, asked of another object. */
        void peek(String text, ToIntFunction<Ships> call, int kind) {
            if (repeated == null || repeated.callsLeft() == 0) {
                repeated = new CountedShips();
                for (Step step : steps) {
                    compare(step.text() + " repeated", step.call().applyAsInt(repeated), step.due(), NO_KIND);
                }
            }
            compare(text, call.applyAsInt(repeated), call.applyAsInt(m), kind);
        }

        int compare(String text, int got, int due, int kind) {
            answers++;
            if (got != due) {
                wrong++;
                System.out.println("run " + number + ", after " + steps.size() + " calls: " + text + " answered " + got
                    + ", the model " + due + "; the last calls: " + steps.subList(Math.max(0, steps.size() - 12), steps.size()));
            }
            if (due >= 0 && kind != NO_KIND) {
                successes[kind]++;
            }
            return due;
        }

        int wild(int below) {
            if (chance(96)) {
                return random(below);
            }
            int[] values = {-1, below, below + 1, Integer.MIN_VALUE, Integer.MAX_VALUE, -9};
            return values[random(values.length)];
        }

        int ship() {
            return wild(Math.max(1, m.now.ships.size()));
        }

        int hex() {
            if (chance(3)) {
                return wild(81);
            }
            return crowded ? 9 * (2 + random(4)) + 2 + random(4) : random(81);
        }

        void launch() {
            int[] a = {wild(2), hex(), wild(6), 1 + wild(8), 1 + wild(small ? 9 : 40), wild(10)};
            same("addShip" + Arrays.toString(a), s -> s.addShip(a[0], a[1], a[2], a[3], a[4], a[5]), 1);
        }

        int path() {
            int kind = random(10);
            if (kind == 0) {
                int[] bad = {0, -1, 4, 10, 1111111, 999999, 121321, Integer.MAX_VALUE, Integer.MIN_VALUE, 14, 301};
                return bad[random(bad.length)];
            }
            int path = 0;
            int steps = 1 + random(kind < 6 ? 3 : 6);
            for (int i = 0; i < steps; i++) {
                path = path * 10 + 1 + random(chance(50) ? 1 : 3);
            }
            return path;
        }

        /** Some path; if there are steps enough, mostly one that leads over the hex of the beginning. */
        int pathFor(int ship) {
            int[] over = {12221, 13331, 122211, 133311, 212221, 122212};
            return m.ship(ship, 8) >= 5 && chance(70) ? over[random(over.length)] : path();
        }

        int wayOrPath(int ship) {
            int way = m.way(ship, hex(), 0);
            return way > 0 ? way : path();
        }

        /** A ship, a side and a target; mostly such that the target can be fired at, if there is one. */
        int[] shot() {
            if (chance(80)) {
                List<int[]> all = new ArrayList<>();
                for (int ship = 0; ship < m.now.ships.size(); ship++) {
                    for (int side = 0; side < 2; side++) {
                        for (int target = 0; target < m.now.ships.size(); target++) {
                            if (m.hits(ship, side, target) >= 0) {
                                all.add(new int[] {ship, side, target});
                            }
                        }
                    }
                }
                if (!all.isEmpty()) {
                    return all.get(random(all.size()));
                }
            }
            return new int[] {ship(), wild(2), ship()};
        }

        int[] pair() {
            int one = ship();
            int other = ship();
            for (int i = 0; i < 12 && !m.couldGrapple(one, other); i++) {
                one = ship();
                other = ship();
            }
            return new int[] {one, other};
        }

        int card(int captain) {
            for (int i = 0; i < 6 && chance(90); i++) {
                int card = random(6);
                if (m.captain(captain, 0) >= 0 && (m.captain(captain, 0) >> card & 1) == 1) {
                    return card;
                }
            }
            return wild(6);
        }

        void act() {
            boolean moves = m.now.moving;
            int draw = random(100);
            if (!moves && draw < 45) {
                int captain = wild(2);
                int card = card(captain);
                same("tell(" + captain + ", " + card + ")", s -> s.tell(captain, card), 3);
            } else if (draw < 62) {
                move(random(22));
            } else if (draw < 72) {
                snapshots(random(12));
            } else if (draw < 82 && x.callsLeft() >= CALLS_OF_TEXT) {
                text();
            } else if (draw < 86) {
                setUp(random(5));
            } else {
                look();
            }
        }

        void move(int draw) {
            int hullBefore = m.now.floating();
            if (draw < 6) {
                int ship = ship();
                int path = chance(30) ? wayOrPath(ship) : pathFor(ship);
                int answer = same("sail(" + ship + ", " + path + ")", s -> s.sail(ship, path), 4);
                successes[19] += answer >= 0 && path > 99 ? 1 : 0;
                successes[24] += answer >= 0 && path > 9999 && String.valueOf(path).matches(".*1(222|333)1.*") ? 1 : 0;
            } else if (draw < 11) {
                int[] shot = shot();
                same("fire" + Arrays.toString(shot), s -> s.fire(shot[0], shot[1], shot[2]), 5);
                successes[16] += hullBefore - m.now.floating();
            } else if (draw < 15) {
                int[] p = pair();
                same("grapple" + Arrays.toString(p), s -> s.grapple(p[0], p[1]), 6);
            } else if (draw < 16) {
                int ship = ship();
                same("cut(" + ship + ")", s -> s.cut(ship), 7);
            } else if (draw < 19) {
                int ship = ship();
                int what = wild(3);
                same("repair(" + ship + ", " + what + ")", s -> s.repair(ship, what), 8);
            } else {
                int before = m.now.captured;
                int twice = m.now.recaptures;
                same("end()", s -> s.end(), 9);
                successes[17] += m.now.captured - before;
                successes[18] += m.now.recaptures - twice;
            }
        }

        void snapshots(int draw) {
            int slot = wild(2);
            if (draw < 3) {
                same("take(" + slot + ")", s -> s.take(slot), 10);
            } else if (draw < 4) {
                same("restore(" + slot + ")", s -> s.restore(slot), 11);
            } else if (draw < 8) {
                same("undo()", s -> s.undo(), 12);
            }
        }

        void setUp(int draw) {
            if (draw == 0) {
                int hex = hex();
                int is = wild(2);
                same("setIsland(" + hex + ", " + is + ")", s -> s.setIsland(hex, is), 0);
            } else if (draw == 1) {
                int captain = wild(2);
                int timber = chance(50) ? random(6) : wild(100);
                same("setTimber(" + captain + ", " + timber + ")", s -> s.setTimber(captain, timber), 2);
            } else {
                launch();
            }
        }

        void text() {
            StringBuilder text = new StringBuilder();
            int orders = random(chance(10) ? 30 : 6);
            for (int i = 0; i < orders; i++) {
                text.append(i > 0 ? ";" : "").append(order());
            }
            if (chance(25)) {
                spoil(text);
            }
            if (chance(90)) {
                same("clearText()", s -> s.clearText(), 14);
            }
            text.setLength(Math.min(text.length(), MOST_SIGNS));
            for (char sign : text.toString().toCharArray()) {
                same("append(" + (int) sign + ")", s -> s.append(sign), 13);
            }
            if (chance(5)) {
                int sign = wild(256);
                same("append(" + sign + ")", s -> s.append(sign), 13);
            }
            if (chance(90)) {
                int written = m.ordersWritten();
                int answer = same("carryOut()", s -> s.carryOut(), 15);
                successes[20] += answer >= 3 ? 1 : 0;
                successes[21] += answer >= 0 && answer < written ? 1 : 0;
            }
        }

        void spoil(StringBuilder text) {
            String signs = ";,0123456789tsfgxreq \u0001\u00ff";
            for (int i = 1 + random(2); i > 0; i--) {
                int at = random(text.length() + 1);
                char sign = signs.charAt(random(signs.length()));
                if (at == text.length() || chance(40)) {
                    text.insert(at, sign);
                } else if (chance(50)) {
                    text.setCharAt(at, sign);
                } else {
                    text.deleteCharAt(at);
                }
            }
        }

        String order() {
            int draw = random(12);
            int ship = random(Math.max(1, m.now.ships.size()));
            if (draw < 4) {
                int captain = random(2);
                return "t" + captain + "," + Math.floorMod(card(captain), 1000000);
            }
            switch (draw) {
                case 4:
                    return "s" + ship + "," + Math.floorMod(path(), 1000000);
                case 5:
                case 6:
                    int[] s = shot();
                    return "f" + Math.floorMod(s[0], 1000) + "," + Math.floorMod(s[1], 10) + "," + Math.floorMod(s[2], 10);
                case 7:
                    int[] p = pair();
                    return "g" + Math.floorMod(p[0], 1000) + "," + Math.floorMod(p[1], 10);
                case 8:
                    return "x" + ship;
                case 9:
                    return "r" + ship + "," + random(4);
                default:
                    return "e";
            }
        }

        void look() {
            int ship = ship();
            int hex = hex();
            int side = wild(2);
            int other = ship();
            int captain = wild(2);
            int what = wild(3);
            switch (random(12)) {
                case 0:
                    int number = wild(12);
                    same("count(" + number + ")", s -> s.count(number), NO_KIND);
                    break;
                case 1:
                    int value = wild(5);
                    same("captain(" + captain + ", " + value + ")", s -> s.captain(captain, value), NO_KIND);
                    break;
                case 2:
                    int part = wild(11);
                    same("ship(" + ship + ", " + part + ")", s -> s.ship(ship, part), NO_KIND);
                    break;
                case 3:
                    same("on(" + hex + ")", s -> s.on(hex), NO_KIND);
                    break;
                case 4:
                    same("targets(" + ship + ", " + side + ")", s -> s.targets(ship, side), NO_KIND);
                    break;
                case 5:
                    same("hits(" + ship + ", " + side + ", " + other + ")", s -> s.hits(ship, side, other), NO_KIND);
                    break;
                case 6:
                    same("way(" + ship + ", " + hex + ", " + what + ")", s -> s.way(ship, hex, what), 22);
                    break;
                case 7:
                    same("reach(" + ship + ")", s -> s.reach(ship), NO_KIND);
                    break;
                case 8:
                    int one = wild(6);
                    int two = wild(6);
                    same("windBy(" + one + ", " + two + ")", s -> s.windBy(one, two), NO_KIND);
                    break;
                case 9:
                    same("bestCard(" + ship + ", " + hex + ", " + side + ")", s -> s.bestCard(ship, hex, side), 23);
                    break;
                case 10:
                    same("threats(" + ship + ")", s -> s.threats(ship), NO_KIND);
                    break;
                default:
                    same("strength(" + captain + ")", s -> s.strength(captain), NO_KIND);
            }
        }

        /** All that can be looked at, also by arguments right out of range. */
        void compareAll(boolean deep) {
            int ships = m.now.ships.size();
            for (int what : numbers(-1, 12)) {
                peek("count(" + what + ")", s -> s.count(what), NO_KIND);
            }
            for (int captain : numbers(-1, 2)) {
                for (int what : numbers(-1, 5)) {
                    peek("captain(" + captain + ", " + what + ")", s -> s.captain(captain, what), NO_KIND);
                }
                peek("strength(" + captain + ")", s -> s.strength(captain), NO_KIND);
            }
            for (int hex : numbers(-1, 81)) {
                peek("on(" + hex + ")", s -> s.on(hex), NO_KIND);
            }
            for (int ship : numbers(-1, ships)) {
                for (int what : numbers(-1, 11)) {
                    peek("ship(" + ship + ", " + what + ")", s -> s.ship(ship, what), NO_KIND);
                }
                compareShots(ship, ships);
                if (deep) {
                    compareWays(ship);
                }
            }
        }

        void compareShots(int ship, int ships) {
            peek("threats(" + ship + ")", s -> s.threats(ship), NO_KIND);
            for (int side : numbers(-1, 2)) {
                peek("targets(" + ship + ", " + side + ")", s -> s.targets(ship, side), NO_KIND);
                for (int other : numbers(-1, ships)) {
                    peek("hits(" + ship + ", " + side + ", " + other + ")", s -> s.hits(ship, side, other), NO_KIND);
                }
            }
        }

        void compareWays(int ship) {
            peek("reach(" + ship + ")", s -> s.reach(ship), NO_KIND);
            for (int hex : numbers(-1, 81)) {
                if (!chance(40)) {
                    continue;
                }
                for (int what : numbers(-1, 3)) {
                    peek("way(" + ship + ", " + hex + ", " + what + ")", s -> s.way(ship, hex, what), 22);
                }
                for (int what : numbers(-1, hex % 5 == 0 ? 2 : -2)) {
                    peek("bestCard(" + ship + ", " + hex + ", " + what + ")", s -> s.bestCard(ship, hex, what), 23);
                }
            }
        }
    }

    /** A ship of the model. */
    private static final class Boat implements Cloneable {
        int captain;
        int row;
        int column;
        int heading;
        int hull = 20;
        int sails;
        int crew;
        int guns;
        int partner = -1;
        int captures;
        List<Integer> shotsLeft = new ArrayList<>();
        List<Integer> shotsRight = new ArrayList<>();
        boolean sailed;
        boolean fired;
        boolean repaired;

        Boat twin() {
            try {
                Boat b = (Boat) clone();
                b.shotsLeft = new ArrayList<>(shotsLeft);
                b.shotsRight = new ArrayList<>(shotsRight);
                return b;
            } catch (CloneNotSupportedException e) {
                throw new IllegalStateException(e);
            }
        }

        boolean loading(int side, int turn) {
            List<Integer> shots = side == 0 ? shotsLeft : shotsRight;
            return shots.contains(turn) || shots.contains(turn - 1);
        }
    }

    /** What a snapshot keeps. */
    private static final class Sea {
        int turn = 0;
        boolean moving = false;
        int wind = 0;
        int force = 2;
        int captured = 0;
        int recaptures = 0;
        int[] timber = {10, 10};
        Integer[] told = {null, null};
        List<Set<Integer>> hands = new ArrayList<>();
        Set<Integer> islands = new HashSet<>();
        List<Boat> ships = new ArrayList<>();

        Sea() {
            hands.add(new TreeSet<>(List.of(0, 1, 2, 3, 4, 5)));
            hands.add(new TreeSet<>(List.of(0, 1, 2, 3, 4, 5)));
        }

        Sea twin() {
            Sea s = new Sea();
            s.turn = turn;
            s.moving = moving;
            s.wind = wind;
            s.force = force;
            s.captured = captured;
            s.recaptures = recaptures;
            s.timber = timber.clone();
            s.told = told.clone();
            s.hands = new ArrayList<>(List.of(new TreeSet<>(hands.get(0)), new TreeSet<>(hands.get(1))));
            s.islands = new HashSet<>(islands);
            for (Boat b : ships) {
                s.ships.add(b.twin());
            }
            return s;
        }

        int floating() {
            return (int) ships.stream().filter(b -> b.hull > 0).count();
        }
    }

    /** What the history keeps; a Sea that stands in it is never changed. */
    private record Past(Sea sea, Sea slot0, Sea slot1) {
    }

    private static final class Model implements Ships {
        static final int[][] NEXT = {{0, 1}, {1, 0}, {1, -1}, {0, -1}, {-1, 0}, {-1, 1}};
        static final String NUMBER = "(0|[1-9][0-9]{0,5})";
        static final Pattern ORDERS = orders();
        /** All paths of up to six steps, by ascending numbers: so also by ascending steps. */
        static final List<Integer> PATHS = new ArrayList<>();

        Sea now = new Sea();
        Sea[] slots = {null, null};
        Deque<Past> history = new ArrayDeque<>();
        String text = "";

        static Pattern orders() {
            String two = NUMBER + "," + NUMBER;
            String order = "(t" + two + "|s" + two + "|f" + two + "," + NUMBER + "|g" + two + "|x" + NUMBER + "|r" + two + "|e)";
            return Pattern.compile(order + "(;" + order + ")*", Pattern.DOTALL);
        }

        static void tellOfPaths() {
            for (int path = 1; path <= 333333; path++) {
                if (String.valueOf(path).matches("[123]+")) {
                    PATHS.add(path);
                }
            }
        }

        static boolean in(int value, int least, int most) {
            return value >= least && value <= most;
        }

        boolean isShip(int ship) {
            return in(ship, 0, now.ships.size() - 1);
        }

        Past past() {
            return new Past(now.twin(), slots[0], slots[1]);
        }

        int record(Past before, int answer) {
            if (answer >= 0) {
                history.addLast(before);
                if (history.size() > 6) {
                    history.removeFirst();
                }
            }
            return answer;
        }

        int shipAt(int row, int column) {
            for (int i = 0; i < now.ships.size(); i++) {
                Boat b = now.ships.get(i);
                if (b.hull > 0 && b.row == row && b.column == column) {
                    return i;
                }
            }
            return -1;
        }

        // ---- actions

        @Override
        public int setIsland(int hex, int is) {
            if (!in(hex, 0, 80) || !in(is, 0, 1)) {
                return -1;
            }
            if (shipAt(hex / 9, hex % 9) >= 0) {
                return -2;
            }
            Past before = past();
            if (is == 1) {
                now.islands.add(hex);
            } else {
                now.islands.remove(hex);
            }
            return record(before, now.islands.size());
        }

        @Override
        public int addShip(int captain, int hex, int heading, int sails, int crew, int guns) {
            if (!in(captain, 0, 1) || !in(hex, 0, 80) || !in(heading, 0, 5) || !in(sails, 1, 8) || !in(crew, 1, 40)
                || !in(guns, 0, 9)) {
                return -1;
            }
            if (now.islands.contains(hex) || shipAt(hex / 9, hex % 9) >= 0) {
                return -2;
            }
            if (now.ships.size() == 8) {
                return -3;
            }
            Past before = past();
            Boat b = new Boat();
            b.captain = captain;
            b.row = hex / 9;
            b.column = hex % 9;
            b.heading = heading;
            b.sails = sails;
            b.crew = crew;
            b.guns = guns;
            now.ships.add(b);
            return record(before, now.ships.size() - 1);
        }

        @Override
        public int setTimber(int captain, int timber) {
            if (!in(captain, 0, 1) || !in(timber, 0, 99)) {
                return -1;
            }
            Past before = past();
            int old = now.timber[captain];
            now.timber[captain] = timber;
            return record(before, old);
        }

        @Override
        public int tell(int captain, int card) {
            if (!in(captain, 0, 1) || !in(card, 0, 5)) {
                return -1;
            }
            if (now.moving || now.told[captain] != null || !now.hands.get(captain).contains(card)) {
                return -2;
            }
            Past before = past();
            now.told[captain] = card;
            if (now.told[1 - captain] != null) {
                turnWind();
            }
            return record(before, count(4));
        }

        void turnWind() {
            int sum = now.told[0] + now.told[1];
            now.wind += sum;
            while (now.wind > 5) {
                now.wind -= 6;
            }
            now.force = sum % 3 + 1;
            for (int c = 0; c < 2; c++) {
                now.hands.get(c).remove(now.told[c]);
                now.told[c] = null;
                if (now.hands.get(c).isEmpty()) {
                    now.hands.get(c).addAll(List.of(0, 1, 2, 3, 4, 5));
                }
            }
            now.moving = true;
        }

        int steps(Boat b, int wind, int force) {
            if (b.hull == 0 || b.partner >= 0) {
                return 0;
            }
            int turning = b.heading < wind ? b.heading - wind + 6 : b.heading - wind;
            int[] factors = {6, 8, 4, 0, 4, 8};
            return factors[turning] * force * (b.crew < b.sails ? b.crew : b.sails) / 32;
        }

        /** Row, column and heading at the end of a path, or null if a step ahead is not possible. */
        int[] go(Boat b, int path) {
            int[] at = {b.row, b.column, b.heading};
            for (char step : String.valueOf(path).toCharArray()) {
                if (step == '2') {
                    at[2] = (at[2] + 1) % 6;
                } else if (step == '3') {
                    at[2] = (at[2] + 5) % 6;
                } else {
                    at[0] += NEXT[at[2]][0];
                    at[1] += NEXT[at[2]][1];
                    if (!in(at[0], 0, 8) || !in(at[1], 0, 8) || now.islands.contains(at[0] * 9 + at[1])) {
                        return null;
                    }
                    int there = shipAt(at[0], at[1]);
                    if (there >= 0 && now.ships.get(there) != b) {
                        return null;
                    }
                }
            }
            return at;
        }

        @Override
        public int sail(int ship, int path) {
            String steps = String.valueOf(path);
            if (!isShip(ship) || !steps.matches("[123]{1,6}")) {
                return -1;
            }
            Boat b = now.ships.get(ship);
            if (!now.moving || b.hull == 0 || b.sailed || steps.length() > steps(b, now.wind, now.force)) {
                return -2;
            }
            int[] at = go(b, path);
            if (at == null) {
                return -2;
            }
            Past before = past();
            b.row = at[0];
            b.column = at[1];
            b.heading = at[2];
            b.sailed = true;
            return record(before, at[0] * 9 + at[1]);
        }

        @Override
        public int fire(int ship, int side, int target) {
            int hits = hits(ship, side, target);
            if (hits == -1) {
                return -1;
            }
            Boat b = now.ships.get(ship);
            if (!now.moving || b.hull == 0 || b.loading(side, now.turn) || hits == -9) {
                return -2;
            }
            Past before = past();
            Boat v = now.ships.get(target);
            v.hull -= Math.min(v.hull, hits);
            v.crew -= Math.min(v.crew, hits / 3);
            v.sails -= Math.min(v.sails, hits / 4);
            v.guns -= Math.min(v.guns, hits / 6);
            if (v.hull == 0 && v.partner >= 0) {
                now.ships.get(v.partner).partner = -1;
                v.partner = -1;
            }
            (side == 0 ? b.shotsLeft : b.shotsRight).add(now.turn);
            b.fired = true;
            return record(before, hits);
        }

        boolean couldGrapple(int ship, int other) {
            if (!isShip(ship) || !isShip(other) || ship == other) {
                return false;
            }
            Boat b = now.ships.get(ship);
            Boat o = now.ships.get(other);
            boolean next = false;
            for (int[] step : NEXT) {
                next |= b.row + step[0] == o.row && b.column + step[1] == o.column;
            }
            return b.hull > 0 && o.hull > 0 && b.partner < 0 && o.partner < 0 && b.captain != o.captain && next
                && b.crew * 2 >= o.crew;
        }

        @Override
        public int grapple(int ship, int other) {
            if (!isShip(ship) || !isShip(other) || ship == other) {
                return -1;
            }
            if (!now.moving || !couldGrapple(ship, other)) {
                return -2;
            }
            Past before = past();
            now.ships.get(ship).partner = other;
            now.ships.get(other).partner = ship;
            return record(before, now.ships.get(ship).crew + now.ships.get(other).crew);
        }

        @Override
        public int cut(int ship) {
            if (!isShip(ship)) {
                return -1;
            }
            Boat b = now.ships.get(ship);
            if (!now.moving || b.partner < 0 || b.crew < now.ships.get(b.partner).crew) {
                return -2;
            }
            Past before = past();
            int other = b.partner;
            b.partner = -1;
            now.ships.get(other).partner = -1;
            return record(before, other);
        }

        @Override
        public int repair(int ship, int what) {
            if (!isShip(ship) || !in(what, 0, 2)) {
                return -1;
            }
            Boat b = now.ships.get(ship);
            if (!now.moving || b.hull == 0 || b.partner >= 0 || b.sailed || b.fired || b.repaired) {
                return -2;
            }
            int timber = now.timber[b.captain];
            int by = 0;
            int price = what + 1;
            int wanted = what == 0 ? b.crew / 4 : 1;
            while (by < wanted && timber >= price && (what == 0 ? b.hull + by < 20 : what == 1 ? b.sails + by < 8 : b.guns + by < 9)) {
                by++;
                timber -= price;
            }
            if (by == 0) {
                return -2;
            }
            Past before = past();
            b.hull += what == 0 ? by : 0;
            b.sails += what == 1 ? by : 0;
            b.guns += what == 2 ? by : 0;
            now.timber[b.captain] = timber;
            b.repaired = true;
            return record(before, by);
        }

        @Override
        public int end() {
            if (!now.moving) {
                return -2;
            }
            Past before = past();
            for (int i = 0; i < now.ships.size(); i++) {
                if (now.ships.get(i).partner > i) {
                    fight(now.ships.get(i), now.ships.get(now.ships.get(i).partner));
                }
            }
            for (Boat b : now.ships) {
                b.sailed = false;
                b.fired = false;
                b.repaired = false;
            }
            now.moving = false;
            now.turn++;
            return record(before, now.turn);
        }

        void fight(Boat a, Boat b) {
            int crew = a.crew;
            a.crew = Math.max(a.crew - (b.crew + 3) / 4, 0);
            b.crew = Math.max(b.crew - (crew + 3) / 4, 0);
            boolean over = a.crew * b.crew == 0;
            Boat winner = a.crew > 0 ? a : b;
            Boat loser = winner == a ? b : a;
            if (winner.crew > 0 && loser.crew == 0) {
                loser.captain = winner.captain;
                loser.crew = winner.crew / 2;
                winner.crew -= winner.crew / 2;
                now.captured++;
                loser.captures++;
                now.recaptures += loser.captures > 1 ? 1 : 0;
            }
            if (over) {
                a.partner = -1;
                b.partner = -1;
            }
        }

        @Override
        public int take(int slot) {
            if (!in(slot, 0, 1)) {
                return -1;
            }
            Past before = past();
            slots[slot] = now.twin();
            return record(before, now.turn);
        }

        @Override
        public int restore(int slot) {
            if (!in(slot, 0, 1)) {
                return -1;
            }
            if (slots[slot] == null) {
                return -2;
            }
            Past before = past();
            now = slots[slot].twin();
            return record(before, now.turn);
        }

        @Override
        public int undo() {
            if (history.isEmpty()) {
                return -2;
            }
            Past latest = history.removeLast();
            now = latest.sea().twin();
            slots = new Sea[] {latest.slot0(), latest.slot1()};
            return history.size();
        }

        // ---- text

        @Override
        public int append(int character) {
            if (!in(character, 1, 255)) {
                return -1;
            }
            if (text.length() == 100) {
                return -3;
            }
            text += (char) character;
            return text.length();
        }

        @Override
        public int clearText() {
            int length = text.length();
            text = "";
            return length;
        }

        int fault() {
            for (int length = 1; length <= text.length(); length++) {
                Matcher matcher = ORDERS.matcher(text.substring(0, length));
                if (!matcher.matches() && !matcher.hitEnd()) {
                    return length - 1;
                }
            }
            return ORDERS.matcher(text).matches() ? -1 : text.length();
        }

        int ordersWritten() {
            return text.split(";").length;
        }

        @Override
        public int carryOut() {
            if (fault() >= 0) {
                return -1000 - fault();
            }
            Past before = past();
            Deque<Past> kept = new ArrayDeque<>(history);
            int done = 0;
            for (String order : text.split(";")) {
                if (obey(order) < 0) {
                    break;
                }
                done++;
            }
            text = "";
            history = kept;
            return record(before, done);
        }

        int obey(String order) {
            String[] n = order.substring(1).split(",");
            int[] a = new int[3];
            for (int i = 0; i < n.length && !n[i].isEmpty(); i++) {
                a[i] = Integer.parseInt(n[i]);
            }
            return switch (order.charAt(0)) {
                case 't' -> tell(a[0], a[1]);
                case 's' -> sail(a[0], a[1]);
                case 'f' -> fire(a[0], a[1], a[2]);
                case 'g' -> grapple(a[0], a[1]);
                case 'x' -> cut(a[0]);
                case 'r' -> repair(a[0], a[1]);
                default -> end();
            };
        }

        // ---- looking

        @Override
        public int count(int what) {
            return switch (what) {
                case 0 -> now.turn;
                case 1 -> now.moving ? 1 : 0;
                case 2 -> now.wind;
                case 3 -> now.force;
                case 4 -> now.moving ? 3 : (now.told[0] != null ? 1 : 0) | (now.told[1] != null ? 2 : 0);
                case 5 -> now.ships.size();
                case 6 -> captain(0, 3) + captain(1, 3);
                case 7 -> now.islands.size();
                case 8 -> now.captured;
                case 9 -> (slots[0] != null ? 1 : 0) + (slots[1] != null ? 1 : 0);
                case 10 -> history.size();
                case 11 -> text.length();
                default -> -1;
            };
        }

        @Override
        public int captain(int captain, int what) {
            if (!in(captain, 0, 1) || !in(what, 0, 4)) {
                return -1;
            }
            int sum = 0;
            switch (what) {
                case 0:
                    for (int card : now.hands.get(captain)) {
                        sum += 1 << card;
                    }
                    return sum;
                case 1:
                    return now.told[captain] == null ? -9 : now.told[captain];
                case 2:
                    return now.timber[captain];
                default:
                    for (int i = 0; i < now.ships.size(); i++) {
                        Boat b = now.ships.get(i);
                        if (b.captain == captain && b.hull > 0) {
                            sum += what == 3 ? 1 << i : b.hull;
                        }
                    }
                    return sum;
            }
        }

        @Override
        public int ship(int ship, int what) {
            if (!isShip(ship) || !in(what, 0, 10)) {
                return -1;
            }
            Boat b = now.ships.get(ship);
            int[] all = {b.captain, b.hull == 0 ? -9 : b.row * 9 + b.column, b.heading, b.hull, b.sails, b.crew, b.guns,
                b.partner < 0 ? -9 : b.partner, steps(b, now.wind, now.force),
                (b.loading(0, now.turn) ? 1 : 0) | (b.loading(1, now.turn) ? 2 : 0),
                (b.sailed ? 1 : 0) | (b.fired ? 2 : 0) | (b.repaired ? 4 : 0)};
            return all[what];
        }

        @Override
        public int on(int hex) {
            if (!in(hex, 0, 80)) {
                return -1;
            }
            int ship = shipAt(hex / 9, hex % 9);
            return ship >= 0 ? ship : now.islands.contains(hex) ? 8 : -9;
        }

        @Override
        public int hits(int ship, int side, int target) {
            if (!isShip(ship) || !isShip(target) || ship == target || !in(side, 0, 1)) {
                return -1;
            }
            Boat b = now.ships.get(ship);
            Boat v = now.ships.get(target);
            if (b.hull == 0 || v.hull == 0 || b.captain == v.captain) {
                return -9;
            }
            int[] turns = side == 0 ? new int[] {4, 5} : new int[] {1, 2};
            for (int turn : turns) {
                int[] step = NEXT[(b.heading + turn) % 6];
                for (int far = 1; far <= 3; far++) {
                    if (b.row + far * step[0] == v.row && b.column + far * step[1] == v.column && open(b, step, far)) {
                        return b.guns * (4 - far) * Math.min(8, b.crew) / 8;
                    }
                }
            }
            return -9;
        }

        /** Whether nothing stands on the line before the hex so far away. */
        boolean open(Boat b, int[] step, int far) {
            for (int i = 1; i < far; i++) {
                int row = b.row + i * step[0];
                int column = b.column + i * step[1];
                if (now.islands.contains(row * 9 + column) || shipAt(row, column) >= 0) {
                    return false;
                }
            }
            return true;
        }

        @Override
        public int targets(int ship, int side) {
            if (!isShip(ship) || !in(side, 0, 1)) {
                return -1;
            }
            int set = 0;
            for (int i = 0; i < now.ships.size(); i++) {
                set |= hits(ship, side, i) >= 0 ? 1 << i : 0;
            }
            return set;
        }

        @Override
        public int threats(int ship) {
            if (!isShip(ship)) {
                return -1;
            }
            int set = 0;
            for (int i = 0; i < now.ships.size(); i++) {
                set |= hits(i, 0, ship) >= 0 || hits(i, 1, ship) >= 0 ? 1 << i : 0;
            }
            return set;
        }

        /** The best path within so many steps to each hex, 0 for none. */
        int[] ways(Boat b, int steps) {
            int[] ways = new int[81];
            int most = (int) Math.pow(10, steps);
            for (int path : PATHS) {
                if (path >= most) {
                    break;
                }
                int[] at = go(b, path);
                if (at != null && ways[at[0] * 9 + at[1]] == 0) {
                    ways[at[0] * 9 + at[1]] = path;
                }
            }
            ways[b.row * 9 + b.column] = 0;
            return ways;
        }

        @Override
        public int way(int ship, int hex, int what) {
            if (!isShip(ship) || !in(hex, 0, 80) || !in(what, 0, 2)) {
                return -1;
            }
            Boat b = now.ships.get(ship);
            int path = ways(b, steps(b, now.wind, now.force))[hex];
            if (path == 0) {
                return -9;
            }
            return what == 0 ? path : what == 1 ? String.valueOf(path).length() : go(b, path)[2];
        }

        @Override
        public int reach(int ship) {
            if (!isShip(ship)) {
                return -1;
            }
            Boat b = now.ships.get(ship);
            return (int) Arrays.stream(ways(b, steps(b, now.wind, now.force))).filter(path -> path > 0).count();
        }

        @Override
        public int windBy(int one, int other) {
            if (!in(one, 0, 5) || !in(other, 0, 5)) {
                return -1;
            }
            return (now.wind + one + other) % 6 * 10 + 1 + (one + other) % 3;
        }

        @Override
        public int bestCard(int ship, int hex, int what) {
            if (!isShip(ship) || !in(hex, 0, 80) || !in(what, 0, 1)) {
                return -1;
            }
            Boat b = now.ships.get(ship);
            int best = -9;
            int most = 0;
            for (int card : now.hands.get(b.captain)) {
                int helped = 0;
                for (int other : now.hands.get(1 - b.captain)) {
                    int wind = windBy(card, other);
                    helped += ways(b, steps(b, wind / 10, wind % 10))[hex] > 0 ? 1 : 0;
                }
                if (helped > most) {
                    most = helped;
                    best = card;
                }
            }
            return best == -9 || what == 0 ? best : most;
        }

        @Override
        public int strength(int captain) {
            if (!in(captain, 0, 1)) {
                return -1;
            }
            double sum = 0;
            for (Boat b : now.ships) {
                if (b.hull > 0 && b.captain == captain) {
                    sum += b.hull * 0.75 + b.crew * 0.5 + b.guns * b.sails * 0.125;
                }
            }
            return (int) sum;
        }
    }
}
