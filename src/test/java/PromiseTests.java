import java.util.Arrays;

/** For each promise of the document: ordinary inputs, the edges that it names, and wrong inputs. */
public final class PromiseTests {
    private static final int BAD = WindCardShips.INVALID_ARGUMENT;
    private static final int STATE = WindCardShips.ILLEGAL_STATE;
    private static final int FULL = WindCardShips.CAPACITY_EXCEEDED;
    private static final int NONE = WindCardShips.NONE;
    private static final int[] EXTREMES = {Integer.MIN_VALUE, Integer.MAX_VALUE};

    private static int wrong = 0;
    private static int checks = 0;
    private static String about = "";

    private static void due(String what, int got, int want) {
        checks++;
        if (got != want) {
            wrong++;
            System.out.println(about + ": " + what + " answered " + got + ", due is " + want);
        }
    }

    public static void main(String[] args) {
        newObject();
        setIsland();
        addShip();
        setTimber();
        tell();
        sail();
        sailAround();
        speeds();
        fire();
        fireLines();
        fireReloading();
        fireSinks();
        grapple();
        cut();
        repair();
        end();
        endFights();
        take();
        restore();
        undo();
        append();
        clearText();
        carryOut();
        faults();
        count();
        captain();
        ship();
        on();
        targets();
        hits();
        way();
        reach();
        windBy();
        bestCard();
        threats();
        strength();
        errorsChangeNothing();
        lookingChangesNothing();
        System.out.println(checks + " checks, " + wrong + " wrong");
        if (wrong != 0) {
            System.exit(1);
        }
    }

    // ---- helpers

    /** Both captains tell their cards, so that the part of the moves begins. */
    private static void tellBoth(CountedShips x, int one, int other) {
        due("tell(0, " + one + ") of both", x.tell(0, one), 1);
        due("tell(1, " + other + ") of both", x.tell(1, other), 3);
    }

    private static void write(CountedShips x, String text) {
        x.clearText();
        for (int i = 0; i < text.length(); i++) {
            due("append in " + text, x.append(text.charAt(i)), i + 1);
        }
    }

    private static int obey(CountedShips x, String text) {
        write(x, text);
        return x.carryOut();
    }

    /** Everything that can be looked at. */
    private static int[] view(CountedShips x) {
        int[] all = new int[12 + 10 + 8 * 11 + 81];
        int n = 0;
        for (int what = 0; what < 12; what++) {
            all[n++] = x.count(what);
        }
        for (int captain = 0; captain < 2; captain++) {
            for (int what = 0; what < 5; what++) {
                all[n++] = x.captain(captain, what);
            }
        }
        for (int ship = 0; ship < 8; ship++) {
            for (int what = 0; what < 11; what++) {
                all[n++] = x.ship(ship, what);
            }
        }
        for (int hex = 0; hex < 81; hex++) {
            all[n++] = x.on(hex);
        }
        return all;
    }

    private static void dueSame(String what, int[] before, int[] after) {
        due(what + " changes nothing", Arrays.equals(before, after) ? 1 : 0, 1);
    }

    /** The view without the number of states in the history and the length of the text. */
    private static int[] viewOfState(CountedShips x) {
        int[] all = view(x);
        all[10] = 0;
        all[11] = 0;
        return all;
    }

    // ---- the promises

    private static void newObject() {
        about = "promise 1";
        CountedShips x = new CountedShips();
        int[] counts = {0, 0, 0, 2, 0, 0, 0, 0, 0, 0, 0, 0};
        for (int what = 0; what < counts.length; what++) {
            due("count(" + what + ")", x.count(what), counts[what]);
        }
        for (int captain = 0; captain < 2; captain++) {
            int[] values = {63, NONE, 10, 0, 0};
            for (int what = 0; what < values.length; what++) {
                due("captain " + what, x.captain(captain, what), values[what]);
            }
        }
        for (int hex = 0; hex < 81; hex++) {
            due("on(" + hex + ")", x.on(hex), NONE);
        }
        due("ship", x.ship(0, 0), BAD);
        due("undo", x.undo(), STATE);
        due("restore", x.restore(0), STATE);
        due("carryOut", x.carryOut(), -1000);
        due("end", x.end(), STATE);
        due("the constants", BAD * 1000 + STATE * 100 + FULL * 10 + NONE, -1000 - 200 - 30 - 9);
    }

    private static void setIsland() {
        about = "promise 2";
        CountedShips x = new CountedShips();
        due("hex -1", x.setIsland(-1, 1), BAD);
        due("hex 81", x.setIsland(81, 1), BAD);
        due("is -1", x.setIsland(0, -1), BAD);
        due("is 2", x.setIsland(0, 2), BAD);
        for (int extreme : EXTREMES) {
            due("hex " + extreme, x.setIsland(extreme, 1), BAD);
            due("is " + extreme, x.setIsland(0, extreme), BAD);
        }
        due("history after errors", x.count(10), 0);
        due("the first hex", x.setIsland(0, 1), 1);
        due("the last hex", x.setIsland(80, 1), 2);
        due("the same again", x.setIsland(0, 1), 2);
        due("on(0)", x.on(0), 8);
        due("none where none was", x.setIsland(5, 0), 2);
        due("none where one was", x.setIsland(0, 0), 1);
        due("on(0) then", x.on(0), NONE);
        due("count(7)", x.count(7), 1);
        due("all five are actions", x.count(10), 5);
        x.addShip(0, 10, 0, 1, 1, 0);
        due("an island under a ship", x.setIsland(10, 1), STATE);
        due("none under a ship", x.setIsland(10, 0), STATE);
        due("a wrong argument comes first", x.setIsland(10, 2), BAD);
        tellBoth(x, 0, 0);
        due("in the part of the moves", x.setIsland(40, 1), 2);
    }

    private static void addShip() {
        about = "promise 3";
        CountedShips x = new CountedShips();
        int[] good = {1, 40, 5, 8, 40, 9};
        int[] least = {0, 0, 0, 1, 1, 0};
        int[] most = {1, 80, 5, 8, 40, 9};
        for (int i = 0; i < 6; i++) {
            int[] bad = good.clone();
            int[] values = {least[i] - 1, most[i] + 1, Integer.MIN_VALUE, Integer.MAX_VALUE};
            for (int value : values) {
                bad[i] = value;
                due("argument " + i + " as " + value, add(x, bad), BAD);
            }
        }
        due("the least of all", add(x, least), 0);
        due("the most of all", add(x, most), 1);
        due("its hull", x.ship(1, 3), 20);
        int[] put = {1, 80, 5, 20, 8, 40, 9, NONE, 3, 0, 0};
        x.undo();
        x.undo();
        add(x, most);
        tellBoth(x, 5, 0);
        put[8] = 6 * 3 * 8 / 32;
        for (int what = 0; what < put.length; what++) {
            due("ship(0, " + what + ")", x.ship(0, what), put[what]);
        }
        due("a hex with a ship", x.addShip(0, 80, 0, 1, 1, 0), STATE);
        x.setIsland(3, 1);
        due("a hex with an island", x.addShip(0, 3, 0, 1, 1, 0), STATE);
        for (int ship = 1; ship < 8; ship++) {
            due("ship " + ship, x.addShip(ship % 2, 40 + ship, 0, 1, 1, 0), ship);
        }
        due("a ninth one", x.addShip(0, 0, 0, 1, 1, 0), FULL);
        due("a ninth one on a ship", x.addShip(0, 80, 0, 1, 1, 0), STATE);
        due("a ninth one on an island", x.addShip(0, 3, 0, 1, 1, 0), STATE);
        due("a ninth one with no crew", x.addShip(0, 80, 0, 1, 0, 0), BAD);
        due("count(5)", x.count(5), 8);
        due("count(10)", x.count(10), 6);
    }

    private static int add(CountedShips x, int[] all) {
        return x.addShip(all[0], all[1], all[2], all[3], all[4], all[5]);
    }

    private static void setTimber() {
        about = "promise 4";
        CountedShips x = new CountedShips();
        due("captain -1", x.setTimber(-1, 5), BAD);
        due("captain 2", x.setTimber(2, 5), BAD);
        due("timber -1", x.setTimber(0, -1), BAD);
        due("timber 100", x.setTimber(0, 100), BAD);
        for (int extreme : EXTREMES) {
            due("captain " + extreme, x.setTimber(extreme, 5), BAD);
            due("timber " + extreme, x.setTimber(0, extreme), BAD);
        }
        due("the most", x.setTimber(0, 99), 10);
        due("captain 0 has it", x.captain(0, 2), 99);
        due("captain 1 has not", x.captain(1, 2), 10);
        due("the least", x.setTimber(0, 0), 99);
        due("the other captain", x.setTimber(1, 7), 10);
        due("the same again", x.setTimber(1, 7), 7);
        due("captain 0", x.captain(0, 2), 0);
        due("actions", x.count(10), 4);
    }

    private static void tell() {
        about = "promise 5";
        CountedShips x = new CountedShips();
        due("captain -1", x.tell(-1, 0), BAD);
        due("captain 2", x.tell(2, 0), BAD);
        due("card -1", x.tell(0, -1), BAD);
        due("card 6", x.tell(0, 6), BAD);
        for (int extreme : EXTREMES) {
            due("captain " + extreme, x.tell(extreme, 0), BAD);
            due("card " + extreme, x.tell(0, extreme), BAD);
        }
        due("captain 1 first", x.tell(1, 5), 2);
        due("it stays in the hand", x.captain(1, 0), 63);
        due("the wind stays", x.count(2) * 10 + x.count(3), 2);
        due("captain 1 again", x.tell(1, 4), STATE);
        due("a wrong card comes first", x.tell(1, 6), BAD);
        due("captain 0 then", x.tell(0, 5), 3);
        due("direction 10 less 6", x.count(2), 4);
        due("strength by 10", x.count(3), 2);
        due("the hand of 0", x.captain(0, 0), 31);
        due("the hand of 1", x.captain(1, 0), 31);
        due("no card is told", x.captain(0, 1) + x.captain(1, 1), 2 * NONE);
        due("part of the moves", x.tell(0, 1), STATE);
        due("a wrong captain there", x.tell(2, 1), BAD);
        x.end();
        due("a card that is gone", x.tell(0, 5), STATE);
        due("a card that is there", x.tell(0, 4), 1);
        due("the card told", x.captain(0, 1), 4);
        due("and by 1", x.tell(1, 4), 3);
        due("direction 4 + 8 less 12", x.count(2), 0);
        due("strength by 8", x.count(3), 3);
        x.end();
        for (int card = 0; card < 4; card++) {
            due("the hand before card " + card, x.captain(1, 0), 15 >> card << card);
            tellBoth(x, card, card);
            x.end();
        }
        due("hands are full again", x.captain(0, 0) + x.captain(1, 0), 126);
        due("direction by 0, 2, 4, 6", x.count(2), 0);
        due("the first card again", x.tell(0, 5), 1);
    }

    private static CountedShips fastShip() {
        CountedShips x = new CountedShips();
        x.addShip(0, 40, 1, 8, 8, 9);
        x.addShip(1, 0, 3, 8, 40, 9);
        return x;
    }

    private static void sail() {
        about = "promise 6";
        CountedShips x = fastShip();
        due("in the part of the cards", x.sail(0, 1), STATE);
        due("no path there", x.sail(0, 0), BAD);
        tellBoth(x, 1, 1);
        due("steps", x.ship(0, 8), 6);
        due("no ship", x.sail(2, 1), BAD);
        due("ship -1", x.sail(-1, 1), BAD);
        int[] bad = {0, -1, -111, 4, 9, 14, 41, 101, 10, 120, 1111111, 1000000, 999999, 141111, 111110,
            Integer.MIN_VALUE, Integer.MAX_VALUE, 1111111111, -2147483535};
        for (int path : bad) {
            due("path " + path, x.sail(0, path), BAD);
        }
        due("out of the board", x.sail(0, 111111), STATE);
        due("the ship stays", x.ship(0, 1), 40);
        due("it has not sailed", x.ship(0, 10), 0);
        due("a turn up and ahead", x.sail(0, 21), 48);
        due("the heading", x.ship(0, 2), 2);
        due("on the old hex", x.on(40), NONE);
        due("on the new hex", x.on(48), 0);
        due("it has sailed", x.ship(0, 10), 1);
        due("again", x.sail(0, 2), STATE);
        due("no path again", x.sail(0, 4), BAD);
        due("next turn", x.end(), 1);
        due("in the next part of the cards", x.sail(0, 1), STATE);
        tellBoth(x, 3, 3);
        due("wind", x.count(2) * 10 + x.count(3), 21);
        due("steps with the wind", x.ship(0, 8), 6 * 8 / 32);
        due("two steps", x.sail(0, 22), STATE);
        due("one step ahead", x.sail(0, 1), 56);
        x = fastShip();
        x.addShip(1, 49, 0, 8, 40, 9);
        x.setIsland(48, 1);
        tellBoth(x, 1, 1);
        due("onto a ship", x.sail(0, 1), STATE);
        due("onto an island", x.sail(0, 21), STATE);
        due("after a good step", x.sail(0, 3131), 33);
        due("over the edge", x.sail(1, 1), STATE);
        due("a turn alone", x.sail(1, 2), 0);
        due("heading up from 3", x.ship(1, 2), 4);
        due("a ship may turn from 5 to 0", turnOf(5, 2), 0);
        due("a ship may turn from 0 to 5", turnOf(0, 3), 5);
        due("a ship may turn from 4 to 3", turnOf(4, 3), 3);
        due("history", x.count(10), 6);
    }

    /** The heading after a path, with any wind that lets the ship sail. */
    private static int turnOf(int heading, int path) {
        CountedShips x = new CountedShips();
        x.addShip(0, 40, heading, 8, 40, 0);
        x.tell(0, 1);
        x.tell(1, heading == 5 ? 4 : 1);
        x.sail(0, path);
        return x.ship(0, 2);
    }

    private static void sailAround() {
        about = "promise 6, around";
        CountedShips x = fastShip();
        tellBoth(x, 1, 1);
        due("back to the own hex", x.sail(0, 12221), 40);
        due("heading", x.ship(0, 2), 4);
        x.undo();
        due("over the own hex and on", x.sail(0, 122211), 31);
        x.undo();
        due("six steps", x.sail(0, 111131), 77);
        x.undo();
        due("six steps of 2 and 3", x.sail(0, 222333), 40);
        x.undo();
        due("the greatest path", x.sail(0, 333333), 40);
        x.undo();
        for (int direction = 0; direction < 6; direction++) {
            int[] next = {41, 49, 48, 39, 31, 32};
            int[] far = {44, 76, 72, 36, 4, 8};
            int[] path = {31, 1, 21, 221, 2221, 331};
            due("to direction " + direction, x.sail(0, path[direction]), next[direction]);
            due("heading", x.ship(0, 2), direction);
            x.undo();
            CountedShips y = new CountedShips();
            y.addShip(0, far[direction], direction, 8, 40, 0);
            y.tell(0, direction == 0 ? 5 : 1);
            y.tell(1, direction == 0 ? 0 : direction == 1 ? 4 : direction == 5 ? 4 : 1);
            due("it can sail", y.ship(0, 8) > 0 ? 1 : 0, 1);
            due("over the edge " + direction, y.sail(0, 1), STATE);
        }
    }

    private static void speeds() {
        about = "how fast";
        int[] first = {6, 8, 4, 0, 4, 8};
        for (int heading = 0; heading < 6; heading++) {
            for (int sum = 0; sum <= 10; sum++) {
                CountedShips x = new CountedShips();
                x.addShip(0, 0, heading, 8, 40, 0);
                x.addShip(0, 20, heading, 5, 3, 0);
                x.addShip(0, 30, heading, 3, 5, 0);
                x.tell(0, sum / 2);
                x.tell(1, sum - sum / 2);
                int factor = first[(heading + 12 - sum) % 6] * (sum % 3 + 1);
                due("full sails, " + heading + " by " + sum, x.ship(0, 8), factor * 8 / 32);
                due("small crew, " + heading + " by " + sum, x.ship(1, 8), factor * 3 / 32);
                due("few sails, " + heading + " by " + sum, x.ship(2, 8), factor * 3 / 32);
                for (int sails = 1; sails <= 8; sails++) {
                    CountedShips y = new CountedShips();
                    y.addShip(0, 40, heading, sails, 9, 0);
                    y.tell(0, sum / 2);
                    y.tell(1, sum - sum / 2);
                    due(sails + " sails, " + heading + " by " + sum, y.ship(0, 8), factor * sails / 32);
                }
            }
        }
    }

    private static void fire() {
        about = "promise 7";
        CountedShips x = new CountedShips();
        x.addShip(0, 40, 0, 8, 40, 9);
        x.addShip(1, 58, 2, 8, 30, 9);
        x.addShip(0, 48, 2, 8, 30, 9);
        due("in the part of the cards", x.fire(0, 1, 1), STATE);
        due("a wrong side there", x.fire(0, 2, 1), BAD);
        tellBoth(x, 0, 0);
        int[][] bad = {{3, 1, 1}, {-1, 1, 1}, {0, 1, 3}, {0, 1, -1}, {0, 1, 0}, {0, 2, 1}, {0, -1, 1},
            {Integer.MAX_VALUE, 1, 1}, {0, Integer.MIN_VALUE, 1}, {0, 1, Integer.MIN_VALUE}};
        for (int[] row : bad) {
            due("fire" + Arrays.toString(row), x.fire(row[0], row[1], row[2]), BAD);
        }
        due("the other side", x.fire(0, 0, 1), STATE);
        due("a ship of the same captain", x.fire(0, 1, 2), STATE);
        due("two hexes away", x.fire(0, 1, 1), 18);
        due("hull", x.ship(1, 3), 2);
        due("crew", x.ship(1, 5), 24);
        due("sails", x.ship(1, 4), 4);
        due("guns", x.ship(1, 6), 6);
        due("has fired", x.ship(0, 10), 2);
        due("cannot fire", x.ship(0, 9), 2);
        due("the shooter's hull", x.ship(0, 3), 20);
        due("again", x.fire(0, 1, 1), STATE);
        due("a wrong target again", x.fire(0, 1, 9), BAD);
        due("the sail after a shot", x.sail(0, 2), 40);
        due("sailed and fired", x.ship(0, 10), 3);
        due("actions", x.count(10), 6);
    }

    private static void fireLines() {
        about = "promise 7, lines";
        int[][] steps = {{1, 0}, {0, 1}, {-1, 1}, {-1, 0}, {0, -1}, {1, -1}};
        for (int heading = 0; heading < 6; heading++) {
            for (int direction = 0; direction < 6; direction++) {
                for (int distance = 1; distance <= 4; distance++) {
                    CountedShips x = new CountedShips();
                    x.addShip(0, 40, heading, 8, 7, 5);
                    int hex = 40 + distance * (steps[direction][0] + 9 * steps[direction][1]);
                    x.addShip(1, hex, 0, 8, 40, 0);
                    tellBoth(x, 0, 0);
                    int turning = (direction + 6 - heading) % 6;
                    int side = turning == 4 || turning == 5 ? 0 : turning == 1 || turning == 2 ? 1 : 2;
                    for (int s = 0; s < 2; s++) {
                        boolean can = s == side && distance <= 3;
                        int hits = 5 * (4 - distance) * 7 / 8;
                        due("targets", x.targets(0, s), can ? 2 : 0);
                        due("hits", x.hits(0, s, 1), can ? hits : NONE);
                        due("fire", x.fire(0, s, 1), can ? hits : STATE);
                    }
                }
            }
        }
    }

    private static void fireReloading() {
        about = "promise 7, reloading";
        CountedShips x = new CountedShips();
        x.addShip(0, 40, 0, 8, 40, 0);
        x.addShip(1, 49, 0, 8, 30, 9);
        x.addShip(1, 31, 0, 8, 30, 9);
        tellBoth(x, 0, 0);
        due("no guns, no hits", x.fire(0, 1, 1), 0);
        due("the other side", x.fire(0, 0, 2), 0);
        due("neither side", x.ship(0, 9), 3);
        x.end();
        due("the next turn", x.ship(0, 9), 3);
        due("has not fired in it", x.ship(0, 10), 0);
        tellBoth(x, 1, 1);
        due("the right one yet", x.fire(0, 1, 1), STATE);
        due("the left one yet", x.fire(0, 0, 2), STATE);
        due("it plays no part for hits", x.hits(0, 1, 1), 0);
        x.end();
        due("the turn after it", x.ship(0, 9), 0);
        due("in the part of the cards", x.fire(0, 1, 1), STATE);
        tellBoth(x, 2, 2);
        due("the left one", x.fire(0, 0, 2), 0);
        due("left alone", x.ship(0, 9), 1);
        x.end();
        tellBoth(x, 3, 3);
        due("the right one a turn later", x.fire(0, 1, 1), 0);
        due("both", x.ship(0, 9), 3);
        x.end();
        due("the left one first", x.ship(0, 9), 2);
        due("hulls stay", x.ship(1, 3) + x.ship(2, 3), 40);
    }

    private static void fireSinks() {
        about = "promise 7, sinking";
        CountedShips x = new CountedShips();
        x.addShip(0, 40, 0, 8, 40, 9);
        x.addShip(1, 49, 3, 3, 6, 3);
        x.addShip(0, 50, 0, 1, 10, 9);
        x.addShip(1, 58, 0, 8, 40, 9);
        tellBoth(x, 0, 0);
        due("grapple", x.grapple(2, 1), 16);
        due("27 hits", x.fire(0, 1, 1), 27);
        int[] sunk = {1, NONE, 3, 0, 0, 0, 0, NONE, 0, 0, 0};
        for (int what = 0; what < sunk.length; what++) {
            due("ship(1, " + what + ")", x.ship(1, what), sunk[what]);
        }
        due("the other is free", x.ship(2, 7), NONE);
        due("on its hex", x.on(49), NONE);
        due("floating", x.count(6), 13);
        due("ships", x.count(5), 4);
        due("a sunk ship sails", x.sail(1, 2), STATE);
        due("a sunk ship fires", x.fire(1, 0, 0), STATE);
        due("fire at a sunk ship", x.fire(2, 1, 1), STATE);
        due("grapple a sunk ship", x.grapple(2, 1), STATE);
        due("a sunk ship grapples", x.grapple(1, 2), STATE);
        due("a sunk ship is cut", x.cut(1), STATE);
        due("a sunk ship is repaired", x.repair(1, 0), STATE);
        due("targets of a sunk ship", x.targets(1, 0) + x.targets(1, 1), 0);
        due("threats to a sunk ship", x.threats(1), 0);
        due("the shot goes on over it", x.hits(0, 1, 3), 18);
        due("an island there", x.setIsland(49, 1), 1);
        due("the island stops it", x.hits(0, 1, 3), NONE);
        x.setIsland(49, 0);
        due("a new ship there", x.addShip(0, 49, 0, 1, 1, 0), 4);
        x = new CountedShips();
        x.addShip(0, 40, 0, 8, 40, 7);
        x.addShip(1, 49, 3, 7, 30, 9);
        tellBoth(x, 0, 0);
        due("21 hits", x.fire(0, 1, 1), 21);
        due("what is left stays", x.ship(1, 5) * 100 + x.ship(1, 4) * 10 + x.ship(1, 6), 2300 + 20 + 6);
        due("a sunk ship with a crew is repaired", x.repair(1, 0), STATE);
        due("its sails", x.repair(1, 1), STATE);
        hullOfOne();
        due("its own captain sees none", x.captain(1, 3) + x.captain(1, 4) + x.strength(1), 0);
    }

    private static void hullOfOne() {
        CountedShips x = new CountedShips();
        x.addShip(0, 40, 0, 8, 8, 6);
        x.addShip(1, 49, 0, 8, 8, 0);
        x.addShip(0, 48, 4, 8, 5, 1);
        tellBoth(x, 0, 0);
        due("18 hits", x.fire(0, 1, 1), 18);
        due("1 hit", x.fire(2, 1, 1), 1);
        due("a hull of 1 floats", x.ship(1, 3) * 100 + x.ship(1, 1), 149);
        due("it is seen", x.on(49) * 10 + x.captain(1, 3), 12);
    }

    private static void grapple() {
        about = "promise 8";
        CountedShips x = new CountedShips();
        x.addShip(0, 40, 0, 8, 10, 9);
        x.addShip(1, 41, 0, 8, 20, 9);
        x.addShip(1, 39, 0, 8, 21, 9);
        x.addShip(0, 42, 0, 8, 40, 9);
        x.addShip(1, 60, 0, 8, 10, 9);
        due("in the part of the cards", x.grapple(0, 1), STATE);
        due("the same there", x.grapple(0, 0), BAD);
        tellBoth(x, 1, 1);
        due("no ship", x.grapple(5, 0), BAD);
        due("no other", x.grapple(0, 5), BAD);
        due("ship -1", x.grapple(-1, 0), BAD);
        due("other -1", x.grapple(0, -1), BAD);
        due("the same", x.grapple(1, 1), BAD);
        due("one captain", x.grapple(0, 3), STATE);
        due("no neighbors", x.grapple(0, 4), STATE);
        due("too small a crew", x.grapple(0, 2), STATE);
        due("just half", x.grapple(0, 1), 30);
        due("both know it", x.ship(0, 7) * 10 + x.ship(1, 7), 10);
        due("the first one is grappled", x.grapple(0, 2), STATE);
        due("the other one is grappled", x.grapple(2, 0), STATE);
        due("again", x.grapple(1, 0), STATE);
        due("a free one to a grappled one", x.grapple(3, 1), STATE);
        due("no steps", x.ship(0, 8) + x.ship(1, 8), 0);
        due("it cannot sail", x.sail(0, 2), STATE);
        due("actions", x.count(10), 6);
        for (int direction = 0; direction < 8; direction++) {
            int[] hexes = {41, 49, 48, 39, 31, 32, 50, 30};
            CountedShips y = new CountedShips();
            y.addShip(1, 40, 0, 8, 10, 9);
            y.addShip(0, hexes[direction], 0, 8, 10, 9);
            tellBoth(y, 1, 1);
            due("to direction " + direction, y.grapple(0, 1), direction < 6 ? 20 : STATE);
        }
        CountedShips z = new CountedShips();
        z.addShip(0, 8, 0, 8, 10, 9);
        z.addShip(1, 9, 0, 8, 10, 9);
        z.addShip(1, 17, 0, 8, 20, 9);
        z.addShip(1, 16, 0, 8, 20, 9);
        tellBoth(z, 1, 1);
        due("over the edge of the board", z.grapple(0, 1), STATE);
        due("below", z.grapple(0, 2), 30);
    }

    private static void cut() {
        about = "promise 9";
        CountedShips x = new CountedShips();
        x.addShip(0, 40, 0, 8, 10, 9);
        x.addShip(1, 41, 0, 8, 12, 9);
        due("no ship", x.cut(2), BAD);
        due("ship -1", x.cut(-1), BAD);
        due("in the part of the cards", x.cut(0), STATE);
        tellBoth(x, 1, 1);
        due("not grappled", x.cut(0), STATE);
        x.grapple(0, 1);
        due("the smaller crew", x.cut(0), STATE);
        due("the greater crew", x.cut(1), 0);
        due("both are free", x.ship(0, 7) + x.ship(1, 7), 2 * NONE);
        due("steps again", x.ship(1, 8), 4 * 3 * 8 / 32);
        due("again", x.cut(1), STATE);
        x.grapple(0, 1);
        x.end();
        due("fought", x.ship(0, 5) * 100 + x.ship(1, 5), 10 * 100 + 12 - 300 - 3);
        due("in the next part of the cards", x.cut(1), STATE);
        CountedShips y = new CountedShips();
        y.addShip(0, 40, 0, 8, 10, 9);
        y.addShip(1, 41, 0, 8, 10, 9);
        tellBoth(y, 1, 1);
        y.grapple(0, 1);
        due("equal crews", y.cut(0), 1);
        due("actions", y.count(10), 6);
    }

    private static CountedShips damaged() {
        CountedShips x = new CountedShips();
        x.addShip(0, 40, 0, 8, 40, 6);
        x.addShip(1, 49, 0, 8, 30, 9);
        x.addShip(1, 32, 4, 8, 30, 9);
        tellBoth(x, 5, 0);
        x.fire(0, 1, 1);
        return x;
    }

    private static void repair() {
        about = "promise 10";
        CountedShips x = new CountedShips();
        x.addShip(0, 40, 0, 8, 40, 9);
        due("no ship", x.repair(1, 0), BAD);
        due("ship -1", x.repair(-1, 0), BAD);
        due("what -1", x.repair(0, -1), BAD);
        due("what 3", x.repair(0, 3), BAD);
        due("in the part of the cards", x.repair(0, 0), STATE);
        tellBoth(x, 0, 0);
        for (int what = 0; what < 3; what++) {
            due("nothing to repair " + what, x.repair(0, what), STATE);
        }
        x = damaged();
        due("damage", x.ship(1, 3) * 1000 + x.ship(1, 5) * 10 + x.ship(1, 4), 2000 + 240 + 4);
        due("guns", x.ship(1, 6), 6);
        due("who has fired", x.repair(0, 1), STATE);
        due("hull by a quarter of 24", x.repair(1, 0), 6);
        due("hull", x.ship(1, 3), 8);
        due("timber", x.captain(1, 2), 4);
        due("timber of the other", x.captain(0, 2), 10);
        due("has been repaired", x.ship(1, 10), 4);
        due("again", x.repair(1, 1), STATE);
        due("what 3 again", x.repair(1, 3), BAD);
        due("fire after it", x.fire(1, 0, 0), 18);
        due("repaired and fired", x.ship(1, 10), 6);
        x.undo();
        due("sail after it", x.sail(1, 2), 49);
        due("sailed and repaired", x.ship(1, 10), 5);
        x = damaged();
        due("sails by 1", x.repair(1, 1), 1);
        due("sails", x.ship(1, 4), 5);
        due("timber by 2", x.captain(1, 2), 8);
        x.undo();
        due("guns by 1", x.repair(1, 2), 1);
        due("guns then", x.ship(1, 6), 7);
        due("timber by 3", x.captain(1, 2), 7);
        x.undo();
        repairByTimber(x);
        x.sail(1, 2);
        due("who has sailed", x.repair(1, 0), STATE);
        x.undo();
        x.grapple(1, 0);
        due("who is grappled", x.repair(1, 0), STATE);
        due("the other is grappled too", x.repair(0, 0), STATE);
        x.undo();
        x.end();
        due("in the next part of the cards", x.repair(1, 0), STATE);
        due("in the next turn", x.count(0), 1);
        x.undo();
        x.end();
        tellBoth(x, 1, 1);
        due("in the next part of the moves", x.repair(1, 0), 6);
        x.end();
        tellBoth(x, 2, 2);
        due("as far as the timber", x.repair(1, 0), 4);
        due("timber then", x.captain(1, 2), 0);
        repairLimits();
    }

    private static void repairByTimber(CountedShips x) {
        int[] timbers = {0, 1, 2, 3, 5, 6, 99};
        int[][] by = {{STATE, STATE, STATE}, {1, STATE, STATE}, {2, 1, STATE}, {3, 1, 1}, {5, 1, 1},
            {6, 1, 1}, {6, 1, 1}};
        for (int i = 0; i < timbers.length; i++) {
            for (int what = 0; what < 3; what++) {
                x.setTimber(1, timbers[i]);
                due("with " + timbers[i] + " timber " + what, x.repair(1, what), by[i][what]);
                if (by[i][what] > 0) {
                    due("timber left", x.captain(1, 2), timbers[i] - by[i][what] * (what + 1));
                    x.undo();
                }
            }
        }
        x.setTimber(1, 10);
    }

    private static void repairLimits() {
        CountedShips x = new CountedShips();
        x.addShip(0, 40, 0, 8, 8, 1);
        x.addShip(1, 49, 0, 8, 40, 9);
        x.addShip(0, 60, 0, 7, 3, 8);
        tellBoth(x, 0, 0);
        due("3 hits", x.fire(0, 1, 1), 3);
        due("hull not above 20", x.repair(1, 0), 3);
        due("timber for it", x.captain(1, 2), 7);
        due("sails of 7", x.repair(2, 1), 1);
        x.undo();
        due("guns of 8", x.repair(2, 2), 1);
        x.end();
        tellBoth(x, 1, 1);
        due("guns of 9", x.repair(2, 2), STATE);
        due("hull of 20", x.repair(2, 0), STATE);
        due("sails of 7 then", x.repair(2, 1), 1);
        x.end();
        tellBoth(x, 2, 2);
        due("sails of 8", x.repair(2, 1), STATE);
        CountedShips y = new CountedShips();
        y.addShip(0, 40, 0, 8, 8, 1);
        y.addShip(1, 49, 0, 8, 4, 9);
        y.addShip(0, 60, 0, 8, 8, 1);
        tellBoth(y, 0, 0);
        y.fire(0, 1, 1);
        due("a quarter of 3 is 0", y.repair(1, 0), STATE);
    }

    private static void end() {
        about = "promise 11";
        CountedShips x = new CountedShips();
        due("in the part of the cards", x.end(), STATE);
        x.tell(0, 0);
        due("one has told", x.end(), STATE);
        x.tell(1, 0);
        due("both have told", x.end(), 1);
        due("the turn", x.count(0), 1);
        due("the part", x.count(1), 0);
        due("told", x.count(4), 0);
        due("again", x.end(), STATE);
        due("actions", x.count(10), 3);
        tellBoth(x, 1, 2);
        due("the next one", x.end(), 2);
        due("the wind stays", x.count(2) * 10 + x.count(3), 31);
    }

    /** The crews, captains and the rest after one fight of crews so great. */
    private static CountedShips fought(int crew, int other) {
        CountedShips x = new CountedShips();
        x.addShip(0, 40, 0, 8, crew, 9);
        x.addShip(1, 41, 0, 8, other, 9);
        tellBoth(x, 1, 1);
        due("grapple", crew >= other ? x.grapple(0, 1) : x.grapple(1, 0), crew + other);
        due("end", x.end(), 1);
        return x;
    }

    private static void endFights() {
        about = "promise 11, fights";
        int[][] rows = {
            // crew, other, crew then, other then, captain then, other captain then, captures
            {20, 20, 15, 15, 0, 1, 0}, {10, 9, 7, 6, 0, 1, 0}, {40, 1, 20, 19, 0, 0, 1},
            {39, 1, 19, 19, 0, 0, 1}, {1, 40, 19, 20, 1, 1, 1}, {1, 1, 0, 0, 0, 1, 0},
            {2, 1, 1, 0, 0, 0, 1}, {3, 1, 1, 1, 0, 0, 1}, {40, 10, 19, 18, 0, 0, 1},
            {40, 11, 37, 1, 0, 1, 0}, {5, 2, 2, 2, 0, 0, 1}, {5, 3, 4, 1, 0, 1, 0},
            {11, 40, 1, 37, 0, 1, 0}, {1, 2, 0, 1, 1, 1, 1}, {3, 5, 1, 4, 0, 1, 0}};
        for (int[] row : rows) {
            CountedShips x = fought(row[0], row[1]);
            String what = row[0] + " against " + row[1] + ": ";
            due(what + "crew", x.ship(0, 5), row[2]);
            due(what + "other crew", x.ship(1, 5), row[3]);
            due(what + "captain", x.ship(0, 0), row[4]);
            due(what + "other captain", x.ship(1, 0), row[5]);
            due(what + "captures", x.count(8), row[6]);
            boolean over = row[6] == 1 || row[2] == 0 && row[3] == 0;
            due(what + "grappled", x.ship(0, 7), over ? NONE : 1);
            due(what + "other grappled", x.ship(1, 7), over ? NONE : 0);
        }
        CountedShips x = fought(20, 20);
        tellBoth(x, 0, 0);
        x.end();
        due("they fight again", x.ship(0, 5) * 100 + x.ship(1, 5), 1111);
        x = fought(40, 1);
        due("all ships of captain 0", x.captain(0, 3), 3);
        due("their hulls", x.captain(0, 4), 40);
        due("none of captain 1", x.captain(1, 3), 0);
        twoFights();
        noCrews();
    }

    private static void twoFights() {
        CountedShips x = new CountedShips();
        x.addShip(0, 40, 0, 8, 40, 9);
        x.addShip(0, 60, 0, 8, 2, 9);
        x.addShip(1, 61, 0, 8, 30, 9);
        x.addShip(1, 41, 0, 8, 2, 9);
        tellBoth(x, 1, 1);
        x.grapple(0, 3);
        x.grapple(2, 1);
        x.sail(1, 2);
        x.fire(0, 1, 2);
        x.end();
        due("captain of 3", x.ship(3, 0), 0);
        due("captain of 1", x.ship(1, 0), 1);
        due("captures", x.count(8), 2);
        due("crews", x.ship(0, 5) * 100 + x.ship(3, 5), 20 * 100 + 19);
        due("the other crews", x.ship(2, 5) * 100 + x.ship(1, 5), 15 * 100 + 14);
        for (int ship = 0; ship < 4; ship++) {
            due("nothing done in the next turn", x.ship(ship, 10), 0);
        }
    }

    /** Two crews of 0 that are grappled: nobody is captured, and they are free then. */
    private static void noCrews() {
        CountedShips x = new CountedShips();
        x.addShip(0, 40, 0, 8, 2, 1);
        x.addShip(1, 41, 0, 8, 2, 1);
        x.addShip(0, 32, 5, 8, 40, 3);
        x.addShip(1, 49, 0, 8, 40, 3);
        tellBoth(x, 1, 1);
        due("9 hits by the left", x.fire(3, 0, 0), 9);
        due("crew of 0", x.ship(0, 5), 0);
        due("no crew, half as great", x.grapple(0, 1), STATE);
        due("the other one can", x.grapple(1, 0), 2);
        due("the one without a crew cannot cut", x.cut(0), STATE);
        x.end();
        due("it is captured", x.ship(0, 0), 1);
        due("crews", x.ship(0, 5) * 10 + x.ship(1, 5), 11);
        due("captures", x.count(8), 1);
        CountedShips y = new CountedShips();
        y.addShip(0, 40, 0, 8, 2, 1);
        y.addShip(1, 41, 0, 8, 2, 1);
        y.addShip(0, 32, 5, 8, 40, 3);
        y.addShip(1, 49, 0, 8, 40, 3);
        tellBoth(y, 1, 1);
        due("crew of 1 goes", y.fire(2, 1, 1), 9);
        due("crew of 0 goes", y.fire(3, 0, 0), 9);
        due("both are 0", y.grapple(0, 1), 0);
        due("0 is not less than 0", y.cut(0), 1);
        due("grappled again", y.grapple(1, 0), 0);
        y.end();
        due("nobody is captured", y.count(8) * 10 + y.ship(1, 0), 1);
        due("both are free", y.ship(0, 7) + y.ship(1, 7), 2 * NONE);
    }

    private static void take() {
        about = "promise 12";
        CountedShips x = new CountedShips();
        due("slot -1", x.take(-1), BAD);
        due("slot 2", x.take(2), BAD);
        for (int extreme : EXTREMES) {
            due("slot " + extreme, x.take(extreme), BAD);
        }
        due("no action", x.count(10), 0);
        due("slot 1", x.take(1), 0);
        due("snapshots", x.count(9), 1);
        due("an action", x.count(10), 1);
        due("slot 1 again", x.take(1), 0);
        due("snapshots then", x.count(9), 1);
        tellBoth(x, 0, 0);
        x.end();
        due("slot 0 in turn 1", x.take(0), 1);
        due("two snapshots", x.count(9), 2);
        due("restore 1", x.restore(1), 0);
        due("restore 0", x.restore(0), 1);
        x.take(1);
        due("in place of what was there", x.restore(1), 1);
        due("undo of both", x.undo() + x.undo(), 9);
        due("the slot is as before", x.restore(1), 0);
    }

    private static void restore() {
        about = "promise 13";
        CountedShips x = new CountedShips();
        due("slot -1", x.restore(-1), BAD);
        due("slot 2", x.restore(2), BAD);
        due("an empty slot", x.restore(0), STATE);
        due("the other empty slot", x.restore(1), STATE);
        x = atFirstSnapshot();
        due("the other slot is empty", x.restore(1), STATE);
        int[] then = viewOfState(x);
        int[] later = viewOfState(atSecondSnapshot());
        then[9] = 2;
        later[9] = 2;
        x = beyondBothSnapshots();
        due("the history is full", x.count(10), 6);
        due("restore 0", x.restore(0), 0);
        due("the history stays", x.count(10), 6);
        due("the text stays", x.count(11), 1);
        dueSame("restore 0", then, viewOfState(x));
        due("the ship is gone", x.ship(3, 0), BAD);
        due("it stays in the slot", x.restore(0), 0);
        due("restore 1", x.restore(1), 1);
        dueSame("restore 1", later, viewOfState(x));
        due("the card told is there", x.captain(1, 1), 5);
        due("it goes on from there", x.tell(0, 1), 3);
        x.take(0);
        due("restore of the present", x.restore(0), 1);
        due("undo it", x.undo(), 5);
    }

    private static CountedShips atFirstSnapshot() {
        CountedShips x = damaged();
        x.tell(0, 1);
        x.setIsland(7, 1);
        x.setTimber(1, 33);
        x.sail(2, 1);
        x.repair(1, 1);
        x.take(0);
        return x;
    }

    private static CountedShips atSecondSnapshot() {
        CountedShips x = atFirstSnapshot();
        x.end();
        x.tell(1, 5);
        due("one has told", x.take(1), 1);
        return x;
    }

    private static CountedShips beyondBothSnapshots() {
        CountedShips x = atSecondSnapshot();
        x.setIsland(8, 1);
        x.setIsland(7, 0);
        x.tell(0, 3);
        x.grapple(1, 0);
        x.addShip(1, 80, 3, 2, 2, 2);
        x.append('e');
        return x;
    }

    private static void undo() {
        about = "promise 14";
        CountedShips x = new CountedShips();
        due("an empty history", x.undo(), STATE);
        for (int hex = 0; hex < 8; hex++) {
            x.setIsland(hex, 1);
            due("history", x.count(10), Math.min(hex + 1, 6));
        }
        for (int left = 5; left >= 0; left--) {
            due("undo", x.undo(), left);
            due("islands", x.count(7), left + 2);
        }
        due("no more", x.undo(), STATE);
        due("islands stay", x.count(7), 2);
        undoCapture();
        undoEach();
        undoSlots();
    }

    /** Every action of a long run is taken back, and all is as it was before it. */
    private static void undoEach() {
        for (int i = 0; i < 15; i++) {
            int[] before = viewOfState(afterActs(i));
            int[] after = viewOfState(afterActs(i + 1));
            CountedShips x = afterActs(i);
            due("action " + i + " succeeds", act(x, i) >= 0 ? 1 : 0, 1);
            x.undo();
            dueSame("action " + i + " and undo", before, viewOfState(x));
            act(x, i);
            dueSame("action " + i + " again", after, viewOfState(x));
        }
        due("nothing is recorded by errors", afterActs(15).count(10), 6);
    }

    private static CountedShips afterActs(int acts) {
        CountedShips x = new CountedShips();
        for (int i = 0; i < acts; i++) {
            act(x, i);
        }
        return x;
    }

    private static int act(CountedShips x, int number) {
        switch (number) {
            case 0: return x.addShip(0, 40, 0, 8, 40, 6);
            case 1: return x.addShip(1, 49, 0, 8, 30, 9);
            case 2: return x.setIsland(33, 1);
            case 3: return x.setTimber(1, 50);
            case 4: return x.tell(1, 3);
            case 5: return x.tell(0, 5);
            case 6: return x.fire(0, 1, 1);
            case 7: return x.sail(0, 2);
            case 8: return x.take(1);
            case 9: return x.repair(1, 0);
            case 10: return x.grapple(0, 1);
            case 11: return x.cut(0);
            case 12: return x.end();
            case 13: return obey(x, "t0,0;t1,0;g0,1;e");
            default: return x.restore(1);
        }
    }

    private static void undoCapture() {
        CountedShips x = new CountedShips();
        x.addShip(0, 40, 0, 8, 40, 1);
        x.addShip(1, 31, 0, 8, 1, 1);
        tellBoth(x, 0, 0);
        due("by the left side", x.fire(0, 0, 1), 3);
        due("it cannot fire", x.ship(0, 9), 1);
        x.undo();
        due("it can fire again", x.ship(0, 9), 0);
        x.grapple(0, 1);
        x.take(0);
        x.end();
        due("captured", x.count(8) * 10 + x.ship(1, 0), 10);
        due("undo", x.undo(), 5);
        due("not captured", x.count(8) * 10 + x.ship(1, 0), 1);
        due("grappled again", x.ship(1, 7), 0);
        x.end();
        x.restore(0);
        due("not captured in the snapshot", x.count(8) * 10 + x.ship(1, 0), 1);
    }

    private static void undoSlots() {
        CountedShips x = new CountedShips();
        x.setIsland(1, 1);
        x.take(0);
        x.setIsland(2, 1);
        x.take(0);
        x.take(1);
        due("undo the second take", x.undo(), 4);
        due("slot 1 is empty again", x.restore(1), STATE);
        due("one snapshot", x.count(9), 1);
        due("undo the first one", x.undo(), 3);
        x.setIsland(3, 1);
        x.restore(0);
        due("slot 0 as before", x.count(7), 1);
        x.undo();
        due("undo of restore", x.count(7), 3);
        write(x, "e;");
        x.undo();
        due("the text stays", x.count(11), 2);
    }

    private static void append() {
        about = "promise 15";
        CountedShips x = new CountedShips();
        due("character 0", x.append(0), BAD);
        due("character -1", x.append(-1), BAD);
        due("character 256", x.append(256), BAD);
        for (int extreme : EXTREMES) {
            due("character " + extreme, x.append(extreme), BAD);
        }
        due("the least", x.append(1), 1);
        due("the greatest", x.append(255), 2);
        for (int i = 3; i <= 100; i++) {
            due("append", x.append('e'), i);
        }
        due("a full text", x.append('e'), FULL);
        due("a wrong character then", x.append(256), BAD);
        due("the length", x.count(11), 100);
        due("no action", x.count(10), 0);
    }

    private static void clearText() {
        about = "promise 16";
        CountedShips x = new CountedShips();
        due("an empty text", x.clearText(), 0);
        write(x, "t0,");
        due("three", x.clearText(), 3);
        due("then", x.clearText(), 0);
        due("the length", x.count(11), 0);
        due("no action", x.count(10), 0);
        due("it is empty for orders", x.carryOut(), -1000);
    }

    private static void carryOut() {
        about = "promise 17";
        CountedShips x = new CountedShips();
        x.addShip(0, 40, 0, 8, 40, 6);
        x.addShip(1, 49, 0, 8, 30, 9);
        x.addShip(1, 41, 0, 8, 30, 9);
        due("no order is carried out", obey(x, "e"), 0);
        due("it is an action", x.count(10), 4);
        due("the text is empty", x.count(11), 0);
        due("all orders", obey(x, "t0,0;t1,0;f0,1,1;r1,0;g0,2;x0;s0,2;s2,2;e"), 9);
        due("one action", x.count(10), 5);
        due("turn", x.count(0), 1);
        due("the shot", x.ship(1, 3), 2 + 6);
        due("the turning", x.ship(0, 2) * 10 + x.ship(2, 2), 11);
        due("undo them all", x.undo(), 4);
        due("turn then", x.count(0), 0);
        due("hull then", x.ship(1, 3), 20);
        due("the text stays empty", x.count(11), 0);
        due("up to the first error", obey(x, "t0,0;t1,6;t1,0;e"), 1);
        due("what was done before it stays", x.count(4), 1);
        due("the text is empty after it", x.count(11), 0);
        due("an error by a state", obey(x, "t0,1;t1,0"), 0);
        due("a sail with no path", obey(x, "t1,3;s0,0"), 1);
        due("a sail with the greatest number", obey(x, "s0,999999"), 0);
        due("a shot that is not possible", obey(x, "f2,1,0;e"), 0);
        due("sail of six steps", obey(x, "s0,111111;e"), 0);
        due("full history", x.count(10), 6);
        carryOutMore();
        StringBuilder many = new StringBuilder("e");
        for (int i = 0; i < 49; i++) {
            many.append(";e");
        }
        due("99 characters", obey(x, many.toString()), 1);
        StringBuilder whole = new StringBuilder();
        for (int turn = 0; turn < 8; turn++) {
            int card = turn % 6;
            whole.append("t0,").append(card).append(";t1,").append(card).append(";e;");
        }
        CountedShips y = new CountedShips();
        due("100 characters", obey(y, whole.append("t0,3").toString()), 25);
        due("eight turns and a card", y.count(0) * 10 + y.count(4), 81);
    }

    private static void carryOutMore() {
        CountedShips x = new CountedShips();
        x.addShip(0, 40, 0, 8, 40, 0);
        x.addShip(1, 49, 0, 8, 30, 9);
        due("an answer of 0 is no error", obey(x, "t0,1;t1,4;f0,1,1;e"), 4);
        x.undo();
        due("numbers of many digits", obey(x, "t0,1;t1,4;s0,133131"), 3);
        due("by the whole path", x.ship(0, 1) * 10 + x.ship(0, 2), 313);
        x.undo();
        due("a number of two digits is no ship", obey(x, "t0,1;t1,4;s10,1"), 2);
        x.undo();
        due("an order that sails off the board", obey(x, "t0,1;t1,4;s0,111111;e"), 2);
        due("what was done", x.count(1) * 10 + x.ship(0, 10), 10);
    }

    private static void faults() {
        about = "promise 17, faults";
        String[] texts = {"", "e;", ";", "e;;e", "ee", "e1", "a", "E", "t", "t0", "t0,", "t0,0", "t0,0,0", "t00,0",
            "t0,00", "t01,0", "t1234567,0", "t123456,0", "t0,1234567", "x", "x0", "x0,1", "xa", "x,0", "x-1",
            "x 0", "f0,1", "f0,1,", "f0,1,1", "f0,1,1,1", "s0,1;", "s0,1;q", "g0,1;r0,1;x1;e;t0,0;s0,1;f0,0,1",
            "e;e;e", "e; e", "t0;0", "t0.0", "t:,0", "t/,0", "r0,0;t", "r0,10", "r0,100000", "r0,0000", "x1000000",
            "\u00ff", "e\u0001"};
        int[] due = {0, 2, 0, 2, 1, 1, 0, 0, 1, 2, 3, -1, 4, 2,
            4, 2, 7, -1, 9, 1, -1, 2, 1, 1, 1,
            1, 4, 5, -1, 6, 5, 5, -1,
            -1, 2, 2, 2, 1, 1, 6, -1, -1, 4, 7,
            0, 1};
        for (int i = 0; i < texts.length; i++) {
            CountedShips x = new CountedShips();
            int got = obey(x, texts[i]);
            boolean fault = due[i] >= 0;
            due("orders " + texts[i], got <= -1000 ? got : 0, fault ? -1000 - due[i] : 0);
            due("the text of " + texts[i], x.count(11), fault ? texts[i].length() : 0);
            due("the history of " + texts[i], x.count(10), fault ? 0 : 1);
        }
        CountedShips x = new CountedShips();
        StringBuilder full = new StringBuilder();
        for (int i = 0; i < 50; i++) {
            full.append("e;");
        }
        due("a full text that ends too early", obey(x, full.toString()), -1100);
        due("orders before a fault are not carried out", obey(x, "t0,0;t1,0;q"), -1010);
        due("nobody has told", x.count(4), 0);
        due("the same again", x.carryOut(), -1010);
        x.clearText();
        x.append('t');
        x.append('0');
        due("the end after a number", x.carryOut(), -1002);
    }

    private static void count() {
        about = "promise 18";
        CountedShips x = damaged();
        x.setIsland(3, 1);
        x.setIsland(4, 1);
        x.take(1);
        write(x, "abc");
        int[] counts = {0, 1, 5, 3, 3, 3, 7, 2, 0, 1, 6, 3};
        for (int what = 0; what < counts.length; what++) {
            due("count(" + what + ")", x.count(what), counts[what]);
        }
        due("what -1", x.count(-1), BAD);
        due("what 12", x.count(12), BAD);
        for (int extreme : EXTREMES) {
            due("what " + extreme, x.count(extreme), BAD);
        }
        x.end();
        x.tell(1, 5);
        due("count(0)", x.count(0), 1);
        due("count(1)", x.count(1), 0);
        due("count(4)", x.count(4), 2);
        due("the wind until both have told", x.count(2) * 10 + x.count(3), 53);
        x.tell(0, 4);
        due("count(2)", x.count(2), 2);
        due("count(3)", x.count(3), 1);
        due("count(8) after a capture", fought(40, 1).count(8), 1);
    }

    private static void captain() {
        about = "promise 19";
        CountedShips x = damaged();
        due("captain -1", x.captain(-1, 0), BAD);
        due("captain 2", x.captain(2, 0), BAD);
        due("what -1", x.captain(0, -1), BAD);
        due("what 5", x.captain(0, 5), BAD);
        for (int extreme : EXTREMES) {
            due("captain " + extreme, x.captain(extreme, 0), BAD);
            due("what " + extreme, x.captain(0, extreme), BAD);
        }
        int[][] values = {{31, NONE, 10, 1, 20}, {62, NONE, 10, 6, 22}};
        for (int captain = 0; captain < 2; captain++) {
            for (int what = 0; what < 5; what++) {
                due("captain(" + captain + ", " + what + ")", x.captain(captain, what), values[captain][what]);
            }
        }
        x.end();
        x.tell(1, 4);
        due("a card told", x.captain(1, 1), 4);
        due("none told", x.captain(0, 1), NONE);
        x.tell(0, 1);
        due("in the part of the moves", x.captain(1, 1), NONE);
        due("the hand", x.captain(1, 0), 62 - 16);
        due("the other hand", x.captain(0, 0), 31 - 2);
    }

    private static void ship() {
        about = "promise 20";
        CountedShips x = damaged();
        due("ship -1", x.ship(-1, 0), BAD);
        due("ship 3", x.ship(3, 0), BAD);
        due("what -1", x.ship(0, -1), BAD);
        due("what 11", x.ship(0, 11), BAD);
        for (int extreme : EXTREMES) {
            due("ship " + extreme, x.ship(extreme, 0), BAD);
            due("what " + extreme, x.ship(0, extreme), BAD);
        }
        int[][] values = {{0, 40, 0, 20, 8, 40, 6, NONE, 6, 2, 2}, {1, 49, 0, 2, 4, 24, 6, NONE, 3, 0, 0},
            {1, 32, 4, 20, 8, 30, 9, NONE, 6, 0, 0}};
        for (int ship = 0; ship < 3; ship++) {
            for (int what = 0; what < 11; what++) {
                due("ship(" + ship + ", " + what + ")", x.ship(ship, what), values[ship][what]);
            }
        }
        x.sail(2, 2);
        due("sailed", x.ship(2, 10), 1);
        x.fire(2, 1, 1);
        x.repair(1, 0);
        due("repaired", x.ship(1, 10), 4);
        x.grapple(1, 0);
        due("grappled", x.ship(0, 7) * 10 + x.ship(1, 7), 10);
        due("what -1 of a known ship", x.ship(1, -1), BAD);
    }

    private static void on() {
        about = "promise 21";
        CountedShips x = damaged();
        x.setIsland(80, 1);
        due("hex -1", x.on(-1), BAD);
        due("hex 81", x.on(81), BAD);
        for (int extreme : EXTREMES) {
            due("hex " + extreme, x.on(extreme), BAD);
        }
        due("ship 0", x.on(40), 0);
        due("ship 2", x.on(32), 2);
        due("an island", x.on(80), 8);
        due("nothing", x.on(0), NONE);
    }

    private static CountedShips lines() {
        CountedShips x = new CountedShips();
        x.addShip(0, 40, 0, 8, 40, 9);
        x.addShip(1, 67, 0, 8, 40, 9);
        x.addShip(1, 56, 5, 8, 4, 1);
        x.addShip(1, 42, 2, 8, 40, 9);
        x.addShip(0, 13, 3, 8, 40, 9);
        x.addShip(1, 24, 0, 8, 40, 9);
        return x;
    }

    private static void targets() {
        about = "promise 22";
        CountedShips x = lines();
        due("ship -1", x.targets(-1, 0), BAD);
        due("ship 6", x.targets(6, 0), BAD);
        due("side -1", x.targets(0, -1), BAD);
        due("side 2", x.targets(0, 2), BAD);
        for (int extreme : EXTREMES) {
            due("ship " + extreme, x.targets(extreme, 0), BAD);
            due("side " + extreme, x.targets(0, extreme), BAD);
        }
        due("two on the right", x.targets(0, 1), 2 + 4);
        due("one on the left", x.targets(0, 0), 32);
        x.setIsland(49, 1);
        due("an island before one", x.targets(0, 1), 4);
        x.setIsland(49, 0);
        x.setIsland(58, 1);
        due("an island farther before it", x.targets(0, 1), 4);
        x.addShip(0, 48, 0, 1, 1, 0);
        due("an own ship before the other", x.targets(0, 1), 0);
        x.undo();
        x.addShip(1, 48, 0, 1, 1, 0);
        due("another ship before the other", x.targets(0, 1), 64);
    }

    private static void hits() {
        about = "promise 23";
        CountedShips x = lines();
        int[][] bad = {{6, 1, 1}, {-1, 1, 1}, {0, 1, 6}, {0, 1, -1}, {0, 1, 0}, {0, 2, 1}, {0, -1, 1},
            {Integer.MAX_VALUE, 1, 1}, {0, Integer.MIN_VALUE, 1}, {0, 1, Integer.MIN_VALUE}};
        for (int[] row : bad) {
            due("hits" + Arrays.toString(row), x.hits(row[0], row[1], row[2]), BAD);
        }
        due("three away", x.hits(0, 1, 1), 9);
        due("two away", x.hits(0, 1, 2), 18);
        due("the other side", x.hits(0, 0, 2), NONE);
        due("to the left", x.hits(0, 0, 5), 18);
        due("ahead", x.hits(0, 0, 3), NONE);
        due("an own ship", x.hits(0, 0, 4), NONE);
        due("a small crew, two away", x.hits(2, 0, 0), NONE);
        due("a small crew to its left", x.hits(2, 0, 1), NONE);
        x.addShip(1, 39, 1, 8, 4, 1);
        due("1 gun, 4 men, 1 away to the left", x.hits(6, 0, 0), 3 * 4 / 8);
        x.setTimber(0, 3);
        due("no action", x.count(10), 6);
        tellBoth(x, 0, 0);
        x.fire(0, 1, 2);
        due("what was done plays no part", x.hits(0, 1, 1), 9);
        due("hits by fewer", x.hits(2, 1, 1), NONE);
    }

    private static void way() {
        about = "promise 24";
        CountedShips x = fastShip();
        due("ship -1", x.way(-1, 0, 0), BAD);
        due("ship 2", x.way(2, 0, 0), BAD);
        due("hex -1", x.way(0, -1, 0), BAD);
        due("hex 81", x.way(0, 81, 0), BAD);
        due("what -1", x.way(0, 0, -1), BAD);
        due("what 3", x.way(0, 0, 3), BAD);
        for (int extreme : EXTREMES) {
            due("ship " + extreme, x.way(extreme, 0, 0), BAD);
            due("hex " + extreme, x.way(0, extreme, 0), BAD);
            due("what " + extreme, x.way(0, 0, extreme), BAD);
        }
        due("in the part of the cards", x.way(0, 49, 0), 1);
        due("steps of the wind as it is", x.ship(0, 8), 4);
        due("four steps", x.way(0, 76, 0), 1111);
        tellBoth(x, 1, 1);
        due("the own hex", x.way(0, 40, 0), NONE);
        int[][] rows = {{49, 1, 1, 1}, {48, 21, 2, 2}, {41, 31, 2, 0}, {39, 221, 3, 3}, {31, 2221, 4, 4},
            {50, 131, 3, 0}, {57, 121, 3, 2}, {59, 1131, 4, 0}, {32, 331, 3, 5}, {66, 1121, 4, 2},
            {30, 22121, 5, 4}, {22, 22211, 5, 4}, {0, NONE, NONE, NONE}, {80, NONE, NONE, NONE}};
        for (int[] row : rows) {
            for (int what = 0; what < 3; what++) {
                due("way(0, " + row[0] + ", " + what + ")", x.way(0, row[0], what), row[what + 1]);
            }
        }
        x.setIsland(49, 1);
        due("around an island", x.way(0, 50, 0), 3121);
        due("the island", x.way(0, 49, 1), NONE);
        x.addShip(0, 41, 0, 8, 8, 8);
        due("around an island and a ship", x.way(0, 50, 0), NONE);
        due("the ship", x.way(0, 41, 0), NONE);
        x.sail(0, 2);
        due("having sailed plays no part", x.way(0, 48, 0), 1);
        due("a sunk ship", sunk().way(1, 50, 0), NONE);
        due("a grappled ship", grappled().way(0, 49, 0), NONE);
    }

    private static CountedShips sunk() {
        CountedShips x = new CountedShips();
        x.addShip(0, 40, 0, 8, 40, 9);
        x.addShip(1, 49, 0, 8, 40, 9);
        tellBoth(x, 0, 0);
        due("27 hits", x.fire(0, 1, 1), 27);
        return x;
    }

    private static CountedShips grappled() {
        CountedShips x = new CountedShips();
        x.addShip(0, 40, 1, 8, 40, 9);
        x.addShip(1, 41, 0, 8, 40, 9);
        tellBoth(x, 1, 1);
        due("80 men", x.grapple(0, 1), 80);
        return x;
    }

    private static void reach() {
        about = "promise 25";
        CountedShips x = new CountedShips();
        x.addShip(0, 40, 0, 1, 8, 9);
        x.addShip(0, 0, 0, 8, 8, 9);
        x.addShip(0, 8, 0, 8, 8, 9);
        due("ship -1", x.reach(-1), BAD);
        due("ship 3", x.reach(3), BAD);
        for (int extreme : EXTREMES) {
            due("ship " + extreme, x.reach(extreme), BAD);
        }
        due("no steps", x.reach(0), 0);
        due("three steps", x.ship(1, 8), 3);
        due("ahead, and down by a turn", x.reach(1), 6);
        due("in the corner", x.reach(2), 3);
        x.addShip(0, 18, 4, 8, 8, 9);
        due("the strength of 2 and the turning of 4", x.ship(3, 8), 4 * 2 * 8 / 32);
        due("a ship on the way", x.way(3, 0, 0), NONE);
        due("to 9, and to 10 by a turn", x.reach(3), 2);
        x.undo();
        CountedShips z = new CountedShips();
        z.addShip(0, 9, 4, 8, 8, 9);
        due("to the first hex, and to 1 by a turn", z.reach(0), 2);
        x.setIsland(1, 1);
        due("an island ahead", x.reach(1), 2);
        x.setIsland(9, 1);
        due("locked in", x.reach(1), 0);
        due("a sunk ship", sunk().reach(1), 0);
        due("a grappled ship", grappled().reach(0), 0);
        CountedShips y = fastShip();
        tellBoth(y, 1, 1);
        int ways = 0;
        for (int hex = 0; hex < 81; hex++) {
            ways += y.way(0, hex, 0) == NONE ? 0 : 1;
        }
        due("as many as there are ways", y.reach(0), ways);
    }

    private static void windBy() {
        about = "promise 26";
        CountedShips x = new CountedShips();
        due("one -1", x.windBy(-1, 0), BAD);
        due("one 6", x.windBy(6, 0), BAD);
        due("other -1", x.windBy(0, -1), BAD);
        due("other 6", x.windBy(0, 6), BAD);
        for (int extreme : EXTREMES) {
            due("one " + extreme, x.windBy(extreme, 0), BAD);
            due("other " + extreme, x.windBy(0, extreme), BAD);
        }
        for (int turn = 0; turn < 2; turn++) {
            int now = x.count(2);
            for (int one = 0; one < 6; one++) {
                for (int other = 0; other < 6; other++) {
                    int sum = one + other;
                    due("windBy", x.windBy(one, other), 10 * ((now + sum) % 6) + sum % 3 + 1);
                }
            }
            x.tell(0, 5);
            x.tell(1, 0);
        }
    }

    private static void bestCard() {
        about = "promise 27";
        CountedShips x = new CountedShips();
        x.addShip(0, 40, 0, 8, 8, 9);
        x.addShip(1, 80, 3, 8, 8, 9);
        due("ship -1", x.bestCard(-1, 0, 0), BAD);
        due("ship 2", x.bestCard(2, 0, 0), BAD);
        due("hex -1", x.bestCard(0, -1, 0), BAD);
        due("hex 81", x.bestCard(0, 81, 0), BAD);
        due("what -1", x.bestCard(0, 0, -1), BAD);
        due("what 2", x.bestCard(0, 0, 2), BAD);
        for (int extreme : EXTREMES) {
            due("ship " + extreme, x.bestCard(extreme, 0, 0), BAD);
            due("hex " + extreme, x.bestCard(0, extreme, 0), BAD);
            due("what " + extreme, x.bestCard(0, 0, extreme), BAD);
        }
        // Steps by sums 0 to 10: 1, 4, 3, 0, 2, 6, 1, 4, 3, 0, 2.
        due("one step ahead, card", x.bestCard(0, 41, 0), 0);
        due("one step ahead, by how many", x.bestCard(0, 41, 1), 5);
        due("three steps ahead, card", x.bestCard(0, 43, 0), 0);
        due("three steps ahead, by how many", x.bestCard(0, 43, 1), 3);
        due("four steps ahead, card", x.bestCard(0, 44, 0), 0);
        due("four steps ahead, by how many", x.bestCard(0, 44, 1), 2);
        due("five steps, card", x.bestCard(0, 13, 0), 0);
        due("five steps, by how many", x.bestCard(0, 13, 1), 1);
        due("the own hex", x.bestCard(0, 40, 0), NONE);
        due("the own hex, by how many", x.bestCard(0, 40, 1), NONE);
        due("no way", x.bestCard(0, 0, 0), NONE);
        due("no way, by how many", x.bestCard(0, 0, 1), NONE);
        x.tell(0, 0);
        due("a card told is in the hand yet", x.bestCard(0, 43, 0), 0);
        x.tell(1, 0);
        x.sail(0, 1);
        x.end();
        due("without the cards 0", x.bestCard(0, 44, 0), 3);
        due("without the cards 0, by how many", x.bestCard(0, 44, 1), 3);
        due("a grappled ship", grappled().bestCard(0, 49, 0), NONE);
        due("a sunk ship", sunk().bestCard(1, 50, 0), NONE);
        bestCardMore();
    }

    private static void bestCardMore() {
        CountedShips x = new CountedShips();
        x.addShip(1, 36, 0, 8, 8, 9);
        // Six steps ahead only by a sum of 5: captain 1 has the cards 1 to 5, captain 0 all but one.
        due("six steps, card", x.bestCard(0, 42, 0), 0);
        due("six steps, by how many", x.bestCard(0, 42, 1), 1);
        tellBoth(x, 5, 0);
        x.end();
        tellBoth(x, 1, 4);
        x.end();
        tellBoth(x, 0, 2);
        x.end();
        due("the wind", x.count(2) * 10 + x.count(3), 3);
        due("hands", x.captain(0, 0) * 100 + x.captain(1, 0), (4 + 8 + 16) * 100 + 2 + 8 + 32);
        due("of captain 1, card", x.bestCard(0, 42, 0), 1);
        due("of captain 1, by how many", x.bestCard(0, 42, 1), 1);
        due("of captain 1, one step, card", x.bestCard(0, 37, 0), 3);
        due("of captain 1, one step, by how many", x.bestCard(0, 37, 1), 3);
    }

    private static void threats() {
        about = "promise 28";
        CountedShips x = lines();
        due("ship -1", x.threats(-1), BAD);
        due("ship 6", x.threats(6), BAD);
        for (int extreme : EXTREMES) {
            due("ship " + extreme, x.threats(extreme), BAD);
        }
        for (int ship = 0; ship < 6; ship++) {
            int set = 0;
            for (int other = 0; other < 6; other++) {
                int seen = x.targets(other, 0) | x.targets(other, 1);
                set |= (seen >> ship & 1) << other;
            }
            due("threats(" + ship + ")", x.threats(ship), set);
        }
        due("by ship 0 on its right", x.threats(1), 1);
        due("by ship 0 on its left", x.threats(5) & 1, 1);
        CountedShips y = fireAtEachOther();
        due("both", y.threats(0) * 10 + y.threats(1), 21);
        tellBoth(y, 0, 0);
        y.fire(0, 1, 1);
        due("having fired plays no part", y.threats(1), 1);
    }

    private static CountedShips fireAtEachOther() {
        CountedShips x = new CountedShips();
        x.addShip(0, 40, 0, 8, 40, 1);
        x.addShip(1, 58, 0, 8, 40, 0);
        return x;
    }

    private static void strength() {
        about = "promise 29";
        CountedShips x = new CountedShips();
        due("captain -1", x.strength(-1), BAD);
        due("captain 2", x.strength(2), BAD);
        for (int extreme : EXTREMES) {
            due("captain " + extreme, x.strength(extreme), BAD);
        }
        due("no ship", x.strength(0), 0);
        x.addShip(0, 0, 0, 1, 1, 1);
        due("15.625", x.strength(0), 15);
        x.addShip(0, 20, 0, 1, 1, 1);
        due("31.25", x.strength(0), 31);
        x.addShip(0, 40, 0, 7, 2, 1);
        due("cut once", x.strength(0), (125 + 125 + 120 + 8 + 7) / 8);
        due("the other captain", x.strength(1), 0);
        x.addShip(1, 80, 0, 8, 40, 9);
        due("the most", x.strength(1), 15 + 20 + 9);
        x.addShip(1, 77, 0, 8, 39, 9);
        due("half a man", x.strength(1), 44 + 43);
        x.addShip(1, 70, 0, 5, 2, 3);
        due("87.5 and 17.875 are 105.375", x.strength(1), 105);
        CountedShips y = new CountedShips();
        y.addShip(1, 70, 0, 5, 2, 3);
        due("17.875", y.strength(1), 17);
        due("a sunk ship", sunk().strength(1), 0);
    }

    // ---- errors

    private static void errorsChangeNothing() {
        about = "errors";
        CountedShips[] games = {damaged(), sunk(), grappled(), lines(), fought(20, 20)};
        for (CountedShips x : games) {
            write(x, "t0,0;q");
            int[] before = view(x);
            int[][] calls = {{-1, 0}, {81, 0}, {40, 2}};
            for (int[] call : calls) {
                x.setIsland(call[0], call[1]);
                x.setIsland(70, -1);
                x.addShip(call[0], call[0], 0, 0, 0, 0);
                x.setTimber(call[0], 100);
                x.tell(call[0], 9);
                x.sail(0, 999);
                x.sail(0, 111111);
                x.fire(0, 0, 0);
                x.grapple(0, 0);
                x.cut(9);
                x.repair(0, 3);
                x.take(2);
                x.restore(2);
                x.restore(1);
                x.append(0);
                x.carryOut();
            }
            dueSame("an error", before, view(x));
        }
    }

    private static void lookingChangesNothing() {
        about = "what could be";
        CountedShips[] games = {damaged(), sunk(), grappled(), lines()};
        for (CountedShips x : games) {
            int[] before = view(x);
            for (int i = -1; i < 4; i++) {
                x.targets(i, 0);
                x.hits(0, 1, i);
                x.way(i, 50, 0);
                x.reach(i);
                x.windBy(i, 3);
                x.bestCard(i, 50, 0);
                x.threats(i);
                x.strength(i);
            }
            dueSame("looking", before, view(x));
        }
    }
}
