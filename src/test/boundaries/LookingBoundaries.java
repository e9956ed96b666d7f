/** The sentences of the promises 18 to 29. */
final class LookingBoundaries {
    private static final int NONE = WindCardShips.NONE;
    private static final String MOVES = "tell(0, 0) = 1; tell(1, 0) = 3\n";
    private static final String FAST_MOVES = "tell(0, 1) = 1; tell(1, 1) = 3\n";
    private static final String PAIR = "addShip(0, 40, 0, 8, 8, 1) = 0; addShip(1, 49, 0, 8, 8, 1) = 1\n";
    private static final String SUNK = "addShip(0, 40, 0, 8, 8, 9) = 0; addShip(1, 49, 1, 8, 40, 9) = 1\n" + MOVES
        + "fire(0, 1, 1) = 27; ship(1, 3) = 0\n";

    private final Boundaries check;

    private LookingBoundaries(Boundaries check) {
        this.check = check;
    }

    static void all(Boundaries check) {
        LookingBoundaries tests = new LookingBoundaries(check);
        tests.count();
        tests.countOfShips();
        tests.countOfRecords();
        tests.captain();
        tests.ship();
        tests.shipStates();
        tests.on();
        tests.targets();
        tests.hits();
        tests.way();
        tests.waySteps();
        tests.wayNone();
        tests.reach();
        tests.windBy();
        tests.bestCard();
        tests.bestCardHands();
        tests.bestCardNone();
        tests.threats();
        tests.strength();
    }

    // ---- looking

    private void count() {
        check.section("Promise 18: count");
        check.test("Returns a number.", """
            count(0) = 0; count(1) = 0; count(2) = 0; count(3) = 2; count(4) = 0; count(5) = 0; count(6) = 0
            count(7) = 0; count(8) = 0; count(9) = 0; count(10) = 0; count(11) = 0""");
        check.range("Returns the number; INVALID_ARGUMENT if what is out of range.", "", "count(#)", 0, 11,
            "count(#) = ?");
        check.range("Returns the number; INVALID_ARGUMENT if what is out of range.", RecordBoundaries.RICH, "count(#)",
            0, 11, "count(#) = ?");
        check.test("0 the turn", MOVES, """
            count(0) = 0; end() = 1; count(0) = 1; tell(0, 1) = 1; tell(1, 1) = 3; count(0) = 1; end() = 2; count(0) = 2
            undo() = 5; count(0) = 1""");
        check.test("1 1 in the part of the moves and 0 in that of the cards",
            "count(1) = 0; tell(1, 0) = 2; count(1) = 0; tell(0, 0) = 3; count(1) = 1; end() = 1; count(1) = 0");
        check.test("2 the direction of the wind", """
            tell(0, 4) = 1; tell(1, 1) = 3; count(2) = 5; end() = 1; count(2) = 5; tell(0, 1) = 1; count(2) = 5
            tell(1, 0) = 3; count(2) = 0""");
        check.test("3 its strength", """
            count(3) = 2; tell(0, 2) = 1; count(3) = 2; tell(1, 0) = 3; count(3) = 3; end() = 1; count(3) = 3
            tell(0, 0) = 1; tell(1, 3) = 3; count(3) = 1""");
        check.test("4 the set of captains who have told a card in this turn (both in the part of the moves)", """
            count(4) = 0; tell(0, 0) = 1; count(4) = 1; tell(1, 0) = 3; count(4) = 3; end() = 1; count(4) = 0
            tell(1, 1) = 2; count(4) = 2; tell(0, 1) = 3; count(4) = 3""");
    }

    private void countOfShips() {
        check.test("5 the number of ships", ActionBoundaries.eightShips(), "count(5) = 8; undo() = 5; count(5) = 7");
        check.test("5 the number of ships", """
            count(5) = 0; addShip(0, 1, 0, 1, 1, 0) = 0; count(5) = 1; addShip(0, 1, 0, 1, 1, 0) = ILLEGAL_STATE
            count(5) = 1""");
        check.test("5 the number of ships", SUNK, "count(5) = 2; count(6) = 1");
        check.test("6 the set of ships that float", ActionBoundaries.eightShips(),
            "count(6) = 255; undo() = 5; count(6) = 127");
        check.test("6 the set of ships that float", PAIR, "count(6) = 3", MOVES,
            "fire(0, 1, 1) = 3; count(6) = 3; undo() = 4; count(6) = 3");
        check.test("7 the number of islands", """
            count(7) = 0; setIsland(80, 1) = 1; count(7) = 1; setIsland(80, 1) = 1; count(7) = 1; setIsland(80, 0) = 0
            count(7) = 0""");
        String captured = "8 of ships that were captured so far";
        check.test(captured, "addShip(0, 40, 0, 8, 40, 1) = 0; addShip(1, 41, 0, 8, 10, 1) = 1", MOVES,
            "grapple(0, 1) = 50; count(8) = 0; end() = 1; count(8) = 1; undo() = 5; count(8) = 0");
        check.test(captured, "addShip(0, 40, 0, 8, 40, 1) = 0; addShip(1, 41, 0, 8, 11, 1) = 1", MOVES,
            "grapple(0, 1) = 51; end() = 1; count(8) = 0");
        check.test(captured, "addShip(0, 40, 0, 8, 1, 1) = 0; addShip(1, 41, 0, 8, 1, 1) = 1", MOVES,
            "grapple(0, 1) = 2; end() = 1; count(8) = 0");
        check.test(captured, """
            # two in one turn, of either captain, and a ship that is sunk is not captured
            addShip(0, 40, 0, 8, 40, 9) = 0; addShip(1, 41, 0, 8, 1, 1) = 1; addShip(0, 60, 0, 8, 1, 1) = 2
            addShip(1, 61, 0, 8, 40, 1) = 3
            addShip(1, 49, 0, 8, 40, 1) = 4
            tell(0, 0) = 1; tell(1, 0) = 3; grapple(0, 1) = 41; grapple(3, 2) = 41; fire(0, 1, 4) = 27
            count(8) = 0; end() = 1; count(8) = 2""");
    }

    private void countOfRecords() {
        check.test("9 of snapshots", """
            count(9) = 0; take(1) = 0; count(9) = 1; take(1) = 0; count(9) = 1; take(0) = 0; count(9) = 2; undo() = 2
            count(9) = 1; restore(1) = 0; count(9) = 1""");
        StringBuilder states = new StringBuilder("count(10) = 0\n");
        for (int i = 1; i <= 8; i++) {
            states.append("setTimber(0, " + i + ") = ?; count(10) = " + Math.min(i, 6) + "\n");
        }
        check.test("10 of states in the history", states.toString(),
            "undo() = 5; count(10) = 5; tell(0, 6) = INVALID_ARGUMENT; count(10) = 5");
        check.test("11 the length of the text", "write " + "e".repeat(99), """
            count(11) = 99; append(101) = 100; count(11) = 100; append(101) = CAPACITY_EXCEEDED; count(11) = 100
            clearText() = 100; count(11) = 0""");
    }

    private void captain() {
        check.section("Promise 19: captain");
        check.test("Tells about a captain.", """
            captain(0, 0) = 63; captain(0, 1) = NONE; captain(0, 2) = 10; captain(0, 3) = 0; captain(0, 4) = 0
            captain(1, 0) = 63; captain(1, 1) = NONE; captain(1, 2) = 10; captain(1, 3) = 0; captain(1, 4) = 0""");
        check.range("`captain`: 0 or 1", "", "captain(#, 2)", 0, 1, "captain(#, 2) = 10");
        check.range("Returns the value; INVALID_ARGUMENT if an argument is out of range.", "", "captain(0, #)", 0, 4,
            "captain(0, #) = ?");
        check.range("Returns the value; INVALID_ARGUMENT if an argument is out of range.", RecordBoundaries.RICH,
            "captain(1, #)", 0, 4, "captain(1, #) = ?");
        check.test("0 the set of cards in the hand", """
            tell(0, 0) = 1; captain(0, 0) = 63; tell(1, 5) = 3; captain(0, 0) = 62; captain(1, 0) = 31; undo() = 1
            captain(0, 0) = 63; captain(1, 0) = 63""");
        check.test("1 the card told for this turn (NONE if none is told, or in the part of the moves)", """
            captain(0, 1) = NONE; tell(0, 0) = 1; captain(0, 1) = 0; captain(1, 1) = NONE; tell(1, 5) = 3
            captain(0, 1) = NONE; captain(1, 1) = NONE
            end() = 1; captain(0, 1) = NONE; tell(1, 4) = 2; captain(1, 1) = 4; captain(0, 1) = NONE""");
        check.test("2 the timber", """
            setTimber(1, 0) = 10; captain(1, 2) = 0; captain(0, 2) = 10; setTimber(0, 99) = 10; captain(0, 2) = 99
            captain(1, 2) = 0""");
        check.test("3 the set of own ships that float", ActionBoundaries.eightShips(),
            "captain(0, 3) = 85; captain(1, 3) = 170");
        check.test("3 the set of own ships that float", SUNK, "captain(0, 3) = 1; captain(1, 3) = 0");
        check.test("4 the sum of their hulls", ActionBoundaries.eightShips(), "captain(0, 4) = 80; captain(1, 4) = 80");
        check.test("4 the sum of their hulls", PAIR, "captain(0, 4) = 20; captain(1, 4) = 20", MOVES,
            "fire(0, 1, 1) = 3; captain(1, 4) = 17; captain(0, 4) = 20");
        check.test("4 the sum of their hulls", SUNK, "captain(0, 4) = 20; captain(1, 4) = 0");
        check.test("4 the sum of their hulls", "addShip(0, 40, 0, 8, 40, 1) = 0; addShip(1, 41, 0, 8, 1, 1) = 1", MOVES, """
            grapple(0, 1) = 41; end() = 1; captain(0, 3) = 3; captain(0, 4) = 40; captain(1, 3) = 0; captain(1, 4) = 0""");
    }

    private void ship() {
        check.section("Promise 20: ship");
        check.test("Tells about a ship.", "addShip(1, 80, 5, 8, 40, 9) = 0", """
            ship(0, 0) = 1; ship(0, 1) = 80; ship(0, 2) = 5; ship(0, 3) = 20; ship(0, 4) = 8; ship(0, 5) = 40
            ship(0, 6) = 9; ship(0, 7) = NONE
            ship(0, 8) = 4; ship(0, 9) = 0; ship(0, 10) = 0""");
        check.range("`ship`: a ship", ActionBoundaries.eightShips(), "ship(#, 3)", 0, 7, "ship(#, 3) = 20");
        check.range("`ship`: a ship", PAIR, "ship(#, 3)", 0, 1, "ship(#, 3) = 20");
        String returns = "Returns the value; INVALID_ARGUMENT if there is no such ship or what is out of range.";
        check.test(returns,
            "ship(0, 0) = INVALID_ARGUMENT; ship(-1, 0) = INVALID_ARGUMENT; ship(0, 11) = INVALID_ARGUMENT");
        check.range(returns, PAIR, "ship(0, #)", 0, 10, "ship(0, #) = ?");
        check.range(returns, SUNK, "ship(1, #)", 0, 10, "ship(1, #) = ?");
        check.test("0 its captain", "addShip(0, 40, 0, 8, 40, 1) = 0; addShip(1, 41, 0, 8, 1, 1) = 1", MOVES,
            "grapple(0, 1) = 41; ship(0, 0) = 0; ship(1, 0) = 1; end() = 1; ship(1, 0) = 0; ship(0, 0) = 0");
        check.test("0 its captain", SUNK, "ship(1, 0) = 1");
        check.test("1 its hex (NONE if it is sunk)", "addShip(0, 0, 1, 8, 40, 1) = 0; addShip(1, 80, 0, 8, 1, 1) = 1",
            MOVES, "ship(0, 1) = 0; ship(1, 1) = 80; sail(0, 1) = 9; ship(0, 1) = 9");
        check.test("1 its hex (NONE if it is sunk)", SUNK, "ship(1, 1) = NONE; ship(0, 1) = 40");
        check.test("2 its heading",
            "addShip(0, 40, 5, 8, 40, 0) = 0; addShip(0, 44, 0, 8, 40, 0) = 1; tell(0, 5) = 1; tell(1, 0) = 3",
            "sail(0, 2) = 40; ship(0, 2) = 0; sail(1, 3) = 44; ship(1, 2) = 5");
        check.test("2 its heading", SUNK, "ship(1, 2) = 1");
        check.test("3 its hull, 4 its sails, 5 its crew, 6 its guns", PAIR, MOVES,
            "ship(1, 3) = 20; fire(0, 1, 1) = 3; ship(1, 3) = 17; ship(1, 4) = 8; ship(1, 5) = 7; ship(1, 6) = 1");
        check.test("3 its hull, 4 its sails, 5 its crew, 6 its guns", SUNK,
            "ship(1, 3) = 0; ship(1, 4) = 2; ship(1, 5) = 31; ship(1, 6) = 5");
    }

    private void shipStates() {
        check.test("7 the ship with which it is grappled (NONE if there is none)", PAIR, MOVES, """
            ship(0, 7) = NONE; ship(1, 7) = NONE; grapple(1, 0) = 16; ship(0, 7) = 1; ship(1, 7) = 0; end() = 1
            ship(0, 7) = 1; ship(1, 7) = 0
            undo() = 5; undo() = 4; ship(0, 7) = NONE; ship(1, 7) = NONE""");
        check.test("8 how many steps it can make with the wind as it is", "addShip(0, 40, 1, 8, 8, 0) = 0", """
            # in the part of the cards too; what was sailed plays no part
            ship(0, 8) = 4; tell(0, 1) = 1; ship(0, 8) = 4; tell(1, 1) = 3; ship(0, 8) = 6; sail(0, 1) = 49
            ship(0, 8) = 6
            end() = 1; ship(0, 8) = 6; tell(0, 0) = 1; tell(1, 3) = 3; count(2) = 5; ship(0, 8) = 1""");
        check.test("8 how many steps it can make with the wind as it is", SUNK, "ship(1, 8) = 0; ship(0, 8) = 1");
        check.test("9 the set of sides that cannot fire yet",
            "addShip(0, 40, 0, 8, 8, 0) = 0; addShip(1, 49, 0, 8, 8, 1) = 1; addShip(1, 31, 0, 8, 8, 1) = 2", MOVES, """
            ship(0, 9) = 0; fire(0, 0, 2) = 0; ship(0, 9) = 1; end() = 1; ship(0, 9) = 1; tell(0, 1) = 1; tell(1, 1) = 3
            fire(0, 1, 1) = 0; ship(0, 9) = 3; end() = 2; ship(0, 9) = 2; tell(0, 2) = 1; tell(1, 2) = 3
            ship(0, 9) = 2; end() = 3; ship(0, 9) = 0""");
        String done = "10 1 if it has sailed in this turn, 2 if it has fired, 4 if it has been repaired, and these "
        + "added";
        String able = "addShip(0, 40, 0, 7, 8, 0) = 0; addShip(1, 49, 0, 8, 8, 1) = 1\n" + MOVES;
        check.test(done, able, """
            ship(0, 10) = 0; sail(0, 2) = 40; ship(0, 10) = 1; fire(0, 0, 1) = ILLEGAL_STATE; ship(0, 10) = 1; end() = 1
            ship(0, 10) = 0""");
        check.test(done, able, "fire(0, 1, 1) = 0; ship(0, 10) = 2; end() = 1; ship(0, 10) = 0; ship(0, 9) = 2");
        check.test(done, able, "repair(0, 1) = 1; ship(0, 10) = 4; ship(1, 10) = 0; end() = 1; ship(0, 10) = 0");
        check.test(done, able, "fire(0, 1, 1) = 0; sail(0, 2) = 40; ship(0, 10) = 3");
        check.test(done, able, "repair(0, 1) = 1; sail(0, 2) = 40; ship(0, 10) = 5");
        check.test(done, able, """
            repair(0, 1) = 1; fire(0, 1, 1) = 0; ship(0, 10) = 6; sail(0, 2) = 40; ship(0, 10) = 7; end() = 1
            ship(0, 10) = 0""");
        check.test(done,
            "addShip(0, 40, 0, 7, 8, 0) = 0; addShip(1, 49, 0, 8, 8, 1) = 1; addShip(1, 31, 0, 8, 8, 1) = 2", MOVES, """
            # a deed that is done twice is not added twice
            fire(0, 1, 1) = 0; fire(0, 0, 2) = 0; ship(0, 10) = 2; ship(0, 9) = 3; grapple(0, 1) = 16; cut(0) = 1
            ship(0, 10) = 2; ship(1, 10) = 0""");
    }

    private void on() {
        check.section("Promise 21: on");
        check.test("Tells what is on a hex.", """
            on(40) = NONE; setIsland(40, 1) = 1; on(40) = 8; setIsland(40, 0) = 0; addShip(0, 40, 0, 1, 1, 0) = 0
            on(40) = 0""");
        check.range("`hex`: 0 to 80", "", "on(#)", 0, 80, """
            on(#) = NONE; setIsland(#, 1) = 1; on(#) = 8; setIsland(#, 0) = 0; addShip(0, #, 0, 1, 1, 0) = 0; on(#) = 0""");
        String returns = "Returns the ship that floats on it, 8 for an island, NONE for none of both; INVALID_ARGUMENT if hex is out of range.";
        check.test(returns, ActionBoundaries.eightShips(), """
            setIsland(80, 1) = 1; on(0) = 0; on(10) = 1; on(60) = 6; on(70) = 7; on(80) = 8; on(79) = NONE
            on(71) = NONE; on(81) = INVALID_ARGUMENT; on(-1) = INVALID_ARGUMENT""");
        check.test(returns, SUNK, "on(49) = NONE; on(40) = 0; setIsland(49, 1) = 1; on(49) = 8");
        check.test(returns, "addShip(0, 40, 1, 8, 40, 0) = 0", MOVES,
            "on(40) = 0; on(49) = NONE; sail(0, 1) = 49; on(40) = NONE; on(49) = 0");
    }

    // ---- what could be

    private void targets() {
        check.section("Promise 22: targets");
        String words = "Tells which ships could be fired at by a side.";
        check.test(words, PAIR, "targets(0, 0) = 0; targets(0, 1) = 2; targets(1, 0) = 1; targets(1, 1) = 0");
        check.test(words, """
            addShip(1, 13, 0, 8, 8, 1) = 0; addShip(1, 49, 0, 8, 8, 1) = 1; addShip(0, 40, 0, 8, 8, 1) = 2
            addShip(0, 48, 0, 1, 1, 0) = 3; addShip(1, 16, 0, 8, 8, 1) = 4""",
            "# three hexes away on both left lines, and next to it on the right one",
                "targets(2, 0) = 17; targets(2, 1) = 2");
        check.range("`ship`: a ship", PAIR, "targets(#, 0)", 0, 1, "targets(#, 0) = #");
        check.range("`ship`: a ship", ActionBoundaries.eightShips(), "targets(#, 0)", 0, 7, "targets(#, 0) = 0");
        check.range("`side`: 0 or 1", "addShip(0, 40, 0, 1, 1, 0) = 0", "targets(0, #)", 0, 1, "targets(0, #) = 0");
        String empty = "Returns the set of ships, empty if the ship is sunk";
        check.test(empty,
            "addShip(0, 40, 0, 8, 8, 9) = 0; addShip(1, 49, 1, 8, 40, 9) = 1; addShip(0, 50, 0, 8, 8, 9) = 2", MOVES,
            "targets(1, 0) = 4; fire(0, 1, 1) = 27; targets(1, 0) = 0; targets(1, 1) = 0; targets(0, 1) = 0");
        check.test(empty, ActionBoundaries.eightShips(),
            "undo() = 5; addShip(1, 1, 0, 1, 1, 0) = 7; targets(0, 0) = 128; threats(7) = 1");
        check.test("INVALID_ARGUMENT if an argument is out of range.", """
            targets(0, 0) = INVALID_ARGUMENT; addShip(0, 40, 0, 1, 1, 0) = 0; targets(0, 2) = INVALID_ARGUMENT
            targets(1, 2) = INVALID_ARGUMENT; targets(0, 1) = 0""");
        check.test("INVALID_ARGUMENT if an argument is out of range.", SUNK,
            "targets(1, 2) = INVALID_ARGUMENT; targets(1, -1) = INVALID_ARGUMENT; targets(2, 0) = INVALID_ARGUMENT");
    }

    private void hits() {
        check.section("Promise 23: hits");
        check.test("Tells how many hits a shot would have.", PAIR,
            "hits(0, 1, 1) = 3; hits(1, 0, 0) = 3; ship(1, 3) = 20", MOVES,
            "fire(0, 1, 1) = 3; hits(0, 1, 1) = 3; hits(1, 0, 0) = 2");
        String three = "addShip(1, 49, 3, 8, 8, 1) = 0; addShip(0, 40, 0, 8, 8, 1) = 1; addShip(0, 48, 5, 8, 8, 1) = 2\n";
        check.range("`ship`: a ship", three, "hits(#, 1, 0)", 1, 2, "hits(#, 1, 0) = 3");
        check.range("`side`: 0 or 1", PAIR, "hits(0, #, 1)", 0, 1, "hits(0, #, 1) = ?");
        check.test("`side`: 0 or 1", PAIR, """
            hits(0, -1, 1) = INVALID_ARGUMENT; hits(0, 0, 1) = NONE; hits(0, 1, 1) = 3; hits(0, 2, 1) = INVALID_ARGUMENT""");
        String targets = "addShip(0, 40, 0, 8, 8, 1) = 0; addShip(1, 49, 0, 8, 8, 1) = 1; addShip(1, 48, 0, 8, 8, 1) = 2\n";
        check.range("`target`: another ship", targets, "hits(0, 1, #)", 1, 2, "hits(0, 1, #) = 3");
        check.test("Returns the hits", "addShip(0, 40, 0, 8, 8, 0) = 0; addShip(1, 49, 0, 8, 40, 9) = 1",
            "# 0 hits are not NONE", "hits(0, 1, 1) = 0; hits(0, 0, 1) = NONE; hits(1, 0, 0) = 27");
        check.test("INVALID_ARGUMENT if there are no such ships, both are the same, or side is out of range", PAIR, """
            hits(0, 0, 0) = INVALID_ARGUMENT; hits(1, 1, 1) = INVALID_ARGUMENT; hits(2, 0, 2) = INVALID_ARGUMENT
            hits(2, 0, 0) = INVALID_ARGUMENT; hits(0, 1, 2) = INVALID_ARGUMENT
            hits(0, 2, 0) = INVALID_ARGUMENT; hits(0, -1, 1) = INVALID_ARGUMENT; hits(-1, 1, 1) = INVALID_ARGUMENT
            hits(0, 1, -1) = INVALID_ARGUMENT""");
        String none = "NONE if the target cannot be fired at by this side.";
        for (int distance = 1; distance <= 4; distance++) {
            check.test(none, "addShip(0, 40, 0, 8, 8, 1) = 0; addShip(1, " + (40 + 9 * distance) + ", 0, 8, 8, 1) = 1",
                "hits(0, 1, 1) = " + (distance < 4 ? "" + (4 - distance) : "NONE"));
        }
        check.test(none, """
            addShip(0, 40, 0, 8, 8, 1) = 0; addShip(0, 49, 0, 8, 8, 1) = 1; addShip(1, 58, 0, 8, 8, 1) = 2
            addShip(1, 41, 0, 8, 8, 1) = 3""",
            "# an own ship, one behind it, and one ahead", """
                hits(0, 1, 1) = NONE; hits(0, 1, 2) = NONE; hits(0, 0, 3) = NONE; hits(0, 1, 3) = NONE
                hits(1, 1, 2) = 3""");
        check.test(none, SUNK, "hits(0, 1, 1) = NONE; hits(1, 0, 0) = NONE; hits(1, 1, 0) = NONE");
    }

    private void way() {
        check.section("Promise 24: way");
        String words = "Finds a way: the path with the fewest steps by which a ship comes to a hex, of several the "
        + "least number, with no more steps than it can make.";
        String one = "addShip(0, 40, 1, 8, 40, 0) = 0\n" + FAST_MOVES;
        // hex, path, steps, heading at its end
        int[][] rows = {{49, 1, 1, 1}, {58, 11, 2, 1}, {76, 1111, 4, 1}, {48, 21, 2, 2}, {41, 31, 2, 0},
            {39, 221, 3, 3}, {32, 331, 3, 5}, {31, 2221, 4, 4},
            {57, 121, 3, 2}, {50, 131, 3, 0}, {51, 1311, 4, 0}, {56, 211, 3, 2}, {4, NONE, NONE, NONE}, {22, 22211, 5,
                4}, {13, 222111, 6, 4}};
        for (int[] row : rows) {
            String path = row[1] == NONE ? "NONE" : "" + row[1];
            check.test(words, one,
                "way(0, " + row[0] + ", 0) = " + path + "; way(0, " + row[0] + ", 1) = " + row[2] + "; way(0, " + row[0] + ", 2) = " + row[3]);
        }
        check.test(words, "setIsland(49, 1) = 1", one, """
            # around the island on either side there are six steps: the lesser number is that by a turn up
            way(0, 58, 0) = 213131; way(0, 58, 1) = 6; way(0, 58, 2) = 0""");
        check.test(words, "setIsland(49, 1) = 1; setIsland(48, 1) = 2", one,
            "way(0, 58, 0) = 312121; way(0, 58, 1) = 6; way(0, 58, 2) = 2");
        check.test(words, "setIsland(49, 1) = 1; setIsland(48, 1) = 2; setIsland(41, 1) = 3", one,
            "way(0, 58, 0) = NONE; way(0, 39, 0) = 221; way(0, 32, 0) = 331");
        check.test(words, one, "# the way that is told can be sailed",
            "way(0, 13, 0) = 222111; sail(0, 222111) = 13; ship(0, 2) = 4");
        check.range("`ship`: a ship", ActionBoundaries.eightShips() + FAST_MOVES, "way(#, 71, 0)", 0, 7,
            "way(#, 71, 0) = ?");
        check.range("`ship`: a ship", "addShip(0, 40, 1, 8, 40, 0) = 0", "way(#, 49, 0)", 0, 0, "way(#, 49, 0) = 1");
        check.range("`hex`: 0 to 80", one, "way(0, #, 0)", 0, 80, "way(0, #, 0) = NONE");
        check.range("`hex`: 0 to 80", "addShip(0, 0, 1, 8, 40, 0) = 0; addShip(0, 71, 1, 8, 40, 0) = 1", "way(1, #, 1)",
            0, 80, "way(1, #, 1) = ?");
        check.test("`hex`: 0 to 80",
            "addShip(0, 9, 5, 8, 40, 0) = 0; addShip(0, 71, 1, 8, 40, 0) = 1; tell(0, 5) = 1; tell(1, 0) = 3", """
            way(0, 0, 0) = 31; way(0, 1, 0) = 1; way(1, 80, 0) = 1; way(1, 79, 0) = 21; way(1, 81, 0) = INVALID_ARGUMENT""");
        check.range("`what`: 0 for the path, 1 for the number of its steps, 2 for the heading at its end", one,
            "way(0, 48, #)", 0, 2, "way(0, 48, #) = ?");
        check.range("`what`: 0 for the path, 1 for the number of its steps, 2 for the heading at its end", one,
            "way(0, 80, #)", 0, 2, "way(0, 80, #) = NONE");
        check.test("`what`: 0 for the path, 1 for the number of its steps, 2 for the heading at its end", one, """
            way(0, 48, 0) = 21; way(0, 48, 1) = 2; way(0, 48, 2) = 2; way(0, 41, 0) = 31; way(0, 41, 1) = 2
            way(0, 41, 2) = 0""");
    }

    private void waySteps() {
        // sails, steps; a hex so many steps ahead, and one farther
        int[][] rows = {{1, 0}, {2, 1}, {3, 2}, {4, 3}, {6, 4}, {7, 5}, {8, 6}};
        for (int[] row : rows) {
            String path = row[1] == 0 ? "NONE" : "1".repeat(row[1]);
            check.test("with no more steps than it can make.", "addShip(0, 4, 1, " + row[0] + ", 40, 0) = 0",
                FAST_MOVES,
                "ship(0, 8) = " + row[1], "way(0, " + (4 + 9 * row[1]) + ", 0) = " + path,
                    "way(0, " + (13 + 9 * row[1]) + ", 0) = NONE");
        }
        check.test("with no more steps than it can make.",
            "addShip(0, 40, 1, 8, 8, 0) = 0; addShip(0, 20, 3, 8, 8, 0) = 1", """
            # with the wind as it is, in the part of the cards: 4 steps, and none against it
            ship(0, 8) = 4; way(0, 76, 0) = 1111; way(0, 22, 0) = NONE; way(0, 31, 0) = 2221; way(1, 19, 0) = NONE""");
    }

    private void wayNone() {
        check.test("INVALID_ARGUMENT if an argument is out of range",
            "way(0, 40, 0) = INVALID_ARGUMENT; addShip(0, 40, 1, 8, 40, 0) = 0", """
            way(1, 81, 3) = INVALID_ARGUMENT; way(0, 81, 0) = INVALID_ARGUMENT; way(0, -1, 0) = INVALID_ARGUMENT
            way(0, 40, 3) = INVALID_ARGUMENT; way(0, 40, -1) = INVALID_ARGUMENT; way(1, 40, 0) = INVALID_ARGUMENT""");
        String none = "NONE if there is none, or the ship is sunk or on this hex already.";
        check.test(none, "addShip(0, 40, 1, 8, 8, 0) = 0", FAST_MOVES, """
            # the own hex, though a path leads back to it
            way(0, 40, 0) = NONE; way(0, 40, 1) = NONE; way(0, 40, 2) = NONE; sail(0, 12221) = 40; ship(0, 8) = 3
            way(0, 31, 0) = 1; way(0, 40, 0) = NONE""");
        check.test(none, SUNK, """
            way(1, 58, 0) = NONE; way(1, 49, 0) = NONE; way(1, 58, 1) = NONE; way(1, 58, 2) = NONE; way(0, 41, 0) = 1""");
        check.test(none, "addShip(0, 40, 1, 8, 8, 0) = 0; addShip(1, 49, 1, 8, 8, 0) = 1; setIsland(48, 1) = 1",
            FAST_MOVES, """
            # a hex with a ship, one with an island, and a grappled ship
            way(0, 49, 0) = NONE; way(0, 48, 0) = NONE; way(0, 41, 0) = 31; grapple(0, 1) = 16
            way(0, 41, 0) = NONE; cut(0) = 1; way(0, 41, 0) = 31""");
    }

    private void reach() {
        check.section("Promise 25: reach");
        String words = "Counts the hexes to which a ship has a way.";
        // sails and steps by a strength of 1: 49; 58, 48, 41 more
        int[][] weak = {{3, 0}, {4, 1}, {7, 1}, {8, 4}};
        for (int[] row : weak) {
            check.test(words, "addShip(0, 40, 1, " + row[0] + ", 40, 0) = 0", MOVES, "reach(0) = " + row[1]);
        }
        check.test(words, "addShip(0, 40, 1, 8, 40, 0) = 0; tell(0, 1) = 1; tell(1, 0) = 3", """
            # three steps: 49, 58, 48, 41, and 67, 57, 50, 56, 39, 42, 32 more
            ship(0, 8) = 3; reach(0) = 11""");
        check.test(words, "addShip(0, 40, 1, 8, 40, 0) = 0; tell(0, 1) = 1; tell(1, 0) = 3", """
            # an island on 49 leaves 48, 41, 56, 39, 42 and 32, one on 48 takes 56 too
            setIsland(49, 1) = 1; reach(0) = 6; setIsland(48, 1) = 2; reach(0) = 4; addShip(1, 41, 0, 1, 1, 0) = 1
            reach(0) = 2
            setIsland(39, 1) = 3; reach(0) = 1; setIsland(32, 1) = 4; reach(0) = 0""");
        check.range("`ship`: a ship", ActionBoundaries.eightShips(), "reach(#)", 0, 7, "reach(#) = ?");
        check.range("`ship`: a ship", "addShip(0, 40, 1, 4, 40, 0) = 0\n" + MOVES, "reach(#)", 0, 0, "reach(#) = 1");
        String returns = "Returns the number of hexes";
        check.test(returns, "addShip(0, 80, 1, 8, 40, 0) = 0", MOVES, "# out of the corner it is too far",
            "ship(0, 8) = 2; reach(0) = 0");
        check.test(returns, "addShip(0, 80, 1, 8, 40, 0) = 0; tell(0, 1) = 1; tell(1, 0) = 3",
            "# in three steps two up and one ahead, to 79", "reach(0) = 1; way(0, 79, 0) = 221");
        check.test(returns, "addShip(0, 0, 1, 8, 40, 0) = 0", MOVES, "# 9, 18, and 1 by a turn down", "reach(0) = 3");
        check.test(returns, "addShip(0, 9, 4, 4, 8, 0) = 0; addShip(0, 71, 1, 2, 8, 0) = 1",
            "# the first hex alone, and the last one", "ship(0, 8) = 1; reach(0) = 1; ship(1, 8) = 1; reach(1) = 1");
        check.test(returns, "addShip(0, 9, 4, 8, 8, 0) = 0", "# with two steps the hex 1 too",
            "ship(0, 8) = 2; reach(0) = 2; setIsland(0, 1) = 1; reach(0) = 1; setIsland(1, 1) = 2; reach(0) = 0");
        check.test(returns, SUNK, "reach(1) = 0");
        check.test(returns, PAIR, MOVES,
            "reach(0) = 1; grapple(0, 1) = 16; reach(0) = 0; reach(1) = 0; cut(0) = 1; reach(0) = 1");
        check.test("INVALID_ARGUMENT if there is no such ship.", """
            reach(0) = INVALID_ARGUMENT; addShip(0, 40, 1, 8, 40, 0) = 0; reach(1) = INVALID_ARGUMENT
            reach(-1) = INVALID_ARGUMENT""");
    }

    private void windBy() {
        check.section("Promise 26: windBy");
        String words = "Tells the wind that would be, if both captains told these cards now (whether they have them "
        + "or not).";
        int[] byDirection0 = {1, 12, 23, 31, 42, 53, 1, 12, 23, 31, 42};
        int[] byDirection5 = {51, 2, 13, 21, 32, 43, 51, 2, 13, 21, 32};
        for (int one = 0; one < 6; one++) {
            for (int other = 0; other < 6; other++) {
                String call = "windBy(" + one + ", " + other + ") = ";
                check.test(words, call + byDirection0[one + other], "tell(0, 4) = 1", call + byDirection0[one + other],
                    "tell(1, 1) = 3; count(2) = 5", "# in the part of the moves, and the cards 4 and 1 are gone",
                        call + byDirection5[one + other],
                    "end() = 1", call + byDirection5[one + other]);
            }
        }
        check.test(words, """
            windBy(5, 5) = 42; tell(0, 5) = 1; tell(1, 5) = 3; count(2) = 4; count(3) = 2; windBy(0, 0) = 41
            windBy(1, 0) = 52; windBy(1, 1) = 3""");
        check.range("`one`: the card of captain 0, 0 to 5", "", "windBy(#, 2)", 0, 5, "windBy(#, 2) = ?");
        check.range("`other`: that of captain 1, 0 to 5", "", "windBy(3, #)", 0, 5, "windBy(3, #) = ?");
        check.test("Returns 10 times the direction, plus the strength",
            "windBy(0, 0) = 1; windBy(0, 5) = 53; windBy(5, 1) = 1");
        check.test("INVALID_ARGUMENT if an argument is out of range.", """
            windBy(6, 6) = INVALID_ARGUMENT; windBy(-1, 5) = INVALID_ARGUMENT; windBy(5, -1) = INVALID_ARGUMENT
            windBy(6, 0) = INVALID_ARGUMENT; windBy(0, 6) = INVALID_ARGUMENT; windBy(5, 5) = 42""");
    }

    /** With a heading of 0 the steps by the sums 0 to 10 of both cards are 1, 4, 3, 0, 2, 6, 1, 4, 3, 0, 2. */
    private static final String STILL = "addShip(0, 36, 0, 8, 8, 0) = 0; addShip(1, 80, 3, 8, 8, 0) = 1\n";

    private void bestCard() {
        check.section("Promise 27: bestCard");
        String words = "Finds the card in the hand of the captain of a ship with which, by the most cards in the "
        + "hand of the other captain, the ship would have a way to a hex, "
            + "of several the least card; the wind being turned by both from what it is now.";
        // With full hands each card helps by as many; hex so many steps ahead, by how many
        int[][] full = {{37, 5}, {38, 4}, {39, 3}, {40, 2}, {41, 1}, {42, 1}};
        for (int[] row : full) {
            check.test(words, STILL, "bestCard(0, " + row[0] + ", 0) = 0; bestCard(0, " + row[0] + ", 1) = " + row[1]);
        }
        check.test(words, STILL, "# seven steps are too many", "bestCard(0, 43, 0) = NONE; bestCard(0, 43, 1) = NONE");
        // Without the cards 0 of both, the wind being 0 again: hex, best card, by how many
        int[][] less = {{37, 3, 5}, {40, 2, 2}, {42, 1, 1}, {39, 3, 3}};
        for (int[] row : less) {
            check.test(words, STILL, MOVES, "captain(0, 0) = 62; captain(1, 0) = 62",
                "bestCard(0, " + row[0] + ", 0) = " + row[1] + "; bestCard(0, " + row[0] + ", 1) = " + row[2]);
        }
        check.test(words, STILL, """
            # from the wind as it is now: the cards 1 and 0 turn it to 1, from where sums of 4 give the six steps
            tell(0, 1) = 1; tell(1, 0) = 3; count(2) = 1; windBy(3, 1) = 52; windBy(2, 3) = 3; way(0, 40, 0) = 1111
            way(0, 41, 0) = NONE
            bestCard(0, 42, 0) = NONE; bestCard(0, 40, 0) = 0; bestCard(0, 40, 1) = 2""");
        check.range("`ship`: a ship", STILL, "bestCard(#, 38, 0)", 0, 1, "bestCard(#, 38, 0) = ?");
        check.range("`ship`: a ship", ActionBoundaries.eightShips(), "bestCard(#, 80, 0)", 0, 7,
            "bestCard(#, 80, 0) = ?");
        check.range("`hex`: 0 to 80", STILL, "bestCard(0, #, 0)", 0, 80, "bestCard(0, #, 0) = ?");
        check.test("`hex`: 0 to 80", "addShip(0, 9, 5, 8, 8, 0) = 0; addShip(0, 71, 1, 8, 8, 0) = 1", """
            bestCard(0, 0, 0) = 0; bestCard(1, 80, 0) = 0; bestCard(1, 81, 0) = INVALID_ARGUMENT
            bestCard(0, -1, 0) = INVALID_ARGUMENT""");
        String what = "`what`: 0 for the card, 1 for how many cards of the other captain";
        check.range(what, STILL, "bestCard(0, 37, #)", 0, 1, "bestCard(0, 37, #) = ?");
        check.test(what, STILL, MOVES, """
            bestCard(0, 37, 0) = 3; bestCard(0, 37, 1) = 5; bestCard(0, 37, 2) = INVALID_ARGUMENT
            bestCard(0, 37, -1) = INVALID_ARGUMENT""");
    }

    private void bestCardHands() {
        String words = "Finds the card in the hand of the captain of a ship with which, by the most cards in the "
        + "hand of the other captain";
        // Turns until captain 0 has the cards 2, 3 and 4, and captain 1 has 1, 3 and 5; the wind is 0 again.
        String hands = "tell(0, 5) = 1; tell(1, 0) = 3; end() = 1; tell(0, 1) = 1; tell(1, 4) = 3; end() = 2; tell(0, 0) = 1; tell(1, 2) = 3; end() = 3\n"
            + "count(2) = 0; captain(0, 0) = 28; captain(1, 0) = 42\n";
        check.test(words, STILL, hands, """
            # captain 0: sums of 2 are 3, 5, 7, of 3 are 4, 6, 8, of 4 are 5, 7, 9
            bestCard(0, 37, 0) = 3; bestCard(0, 37, 1) = 3; bestCard(0, 38, 0) = 2; bestCard(0, 38, 1) = 2
            bestCard(0, 40, 0) = 2; bestCard(0, 40, 1) = 2; bestCard(0, 42, 0) = 2; bestCard(0, 42, 1) = 1""");
        check.test(words, "addShip(1, 36, 0, 8, 8, 0) = 0", hands, """
            # captain 1: sums of 1 are 3, 4, 5, of 3 are 5, 6, 7, of 5 are 7, 8, 9
            bestCard(0, 37, 0) = 3; bestCard(0, 37, 1) = 3; bestCard(0, 38, 0) = 1; bestCard(0, 38, 1) = 2
            bestCard(0, 40, 0) = 3; bestCard(0, 40, 1) = 2; bestCard(0, 42, 0) = 1; bestCard(0, 42, 1) = 1""");
        check.test(words, STILL, hands, """
            # a card that is told stays in the hand until both have told one
            tell(0, 3) = 1; bestCard(0, 37, 0) = 3; tell(1, 1) = 3; count(2) = 4; captain(0, 0) = 20; captain(1, 0) = 40
            # from 4 the sums 2 + 3, 2 + 5, 4 + 3 and 4 + 5 turn it to 3, 5, 5 and 1, which gives 0, 4, 4 and 2 steps
            bestCard(0, 37, 0) = 4; bestCard(0, 37, 1) = 2; bestCard(0, 38, 0) = 4; bestCard(0, 38, 1) = 2
            bestCard(0, 39, 0) = 2; bestCard(0, 39, 1) = 1; bestCard(0, 40, 0) = 2; bestCard(0, 41, 0) = NONE""");
        String pair = "addShip(0, 40, 0, 8, 40, 0) = 0; addShip(1, 49, 0, 8, 20, 0) = 1\n";
        check.test(words, pair, hands, "bestCard(1, 51, 0) = 1; bestCard(1, 51, 1) = 2");
        check.test(words, "addShip(0, 40, 0, 8, 40, 0) = 0; addShip(1, 49, 0, 8, 1, 0) = 1",
            hands.replaceFirst("end", "grapple(0, 1) = 41; end"), """
            # the captain of a captured ship is the new one
            ship(1, 0) = 0; ship(1, 5) = 19; bestCard(1, 51, 0) = 2; bestCard(1, 51, 1) = 2""");
    }

    private void bestCardNone() {
        String none = "NONE if there is no way to it by any cards.";
        check.test("INVALID_ARGUMENT if an argument is out of range", "bestCard(0, 0, 0) = INVALID_ARGUMENT", STILL, """
            bestCard(2, 81, 2) = INVALID_ARGUMENT; bestCard(0, 36, 2) = INVALID_ARGUMENT
            bestCard(-1, 36, 0) = INVALID_ARGUMENT; bestCard(0, 36, 0) = NONE""");
        check.test(none, STILL, "# the own hex, an island, a hex behind it, and one just too far", """
            bestCard(0, 36, 0) = NONE; bestCard(0, 36, 1) = NONE; bestCard(0, 42, 0) = 0; bestCard(0, 43, 0) = NONE
            setIsland(42, 1) = 1; bestCard(0, 42, 0) = NONE; bestCard(0, 41, 0) = 0; setIsland(42, 0) = 0
            bestCard(0, 42, 0) = 0
            setIsland(37, 1) = 1; bestCard(0, 42, 0) = NONE; bestCard(0, 80, 1) = NONE""");
        check.test(none, SUNK, "bestCard(1, 50, 0) = NONE; bestCard(1, 49, 1) = NONE; bestCard(1, 58, 0) = NONE");
        check.test(none, PAIR, MOVES, """
            bestCard(0, 41, 1) = 5; grapple(0, 1) = 16; bestCard(0, 41, 0) = NONE; bestCard(0, 41, 1) = NONE; cut(0) = 1
            bestCard(0, 41, 0) = 3""");
        check.test(none,
            "addShip(0, 36, 0, 1, 8, 0) = 0; addShip(0, 18, 0, 2, 8, 0) = 1; addShip(0, 0, 0, 8, 1, 0) = 2",
            "# one sail never makes a step; two make one at best", """
                bestCard(0, 37, 0) = NONE; bestCard(1, 19, 0) = 0; bestCard(1, 19, 1) = 2; bestCard(1, 20, 0) = NONE
                bestCard(2, 1, 0) = NONE""");
        check.test(none, STILL, """
            # the one sum that the hands give yet turns the wind from 1 to 0, where it gives four steps
            tell(0, 5) = 1; tell(1, 0) = 3; end() = 1; tell(0, 4) = 1; tell(1, 1) = 3; end() = 2; tell(0, 3) = 1
            tell(1, 2) = 3; end() = 3
            tell(0, 2) = 1; tell(1, 3) = 3; end() = 4; tell(0, 1) = 1; tell(1, 4) = 3; end() = 5
            captain(0, 0) = 1; captain(1, 0) = 32; count(2) = 1; bestCard(0, 40, 0) = 0; bestCard(0, 40, 1) = 1
            bestCard(0, 41, 0) = NONE; bestCard(0, 41, 1) = NONE""");
    }

    private void threats() {
        check.section("Promise 28: threats");
        String words = "Tells which ships could fire at a ship.";
        check.test(words, PAIR, "threats(0) = 2; threats(1) = 1");
        check.test(words, """
            # from the left lines and the right ones, at distances of 1 to 4, of which the last is too far
            addShip(1, 40, 0, 1, 1, 0) = 0; addShip(0, 31, 0, 1, 1, 0) = 1; addShip(0, 58, 0, 1, 1, 0) = 2
            addShip(0, 16, 0, 1, 1, 0) = 3
            addShip(0, 72, 0, 1, 1, 0) = 4; addShip(0, 41, 0, 1, 1, 0) = 5; addShip(1, 39, 1, 1, 1, 0) = 6
            threats(0) = 14; addShip(0, 43, 2, 1, 1, 0) = 7; threats(0) = 14""");
        check.test(words, "addShip(0, 40, 0, 8, 8, 1) = 0; addShip(1, 67, 0, 8, 8, 1) = 1",
            "threats(1) = 1; threats(0) = 2; setIsland(58, 1) = 1; threats(1) = 0; threats(0) = 0");
        check.range("`ship`: a ship", PAIR, "threats(#)", 0, 1, "threats(#) = ?");
        check.range("`ship`: a ship", ActionBoundaries.eightShips(), "threats(#)", 0, 7, "threats(#) = 0");
        check.test("Returns the set of ships", ActionBoundaries.eightShips(), """
            undo() = 5; addShip(1, 1, 3, 1, 1, 0) = 7; threats(0) = 0; threats(7) = 1; undo() = 5
            addShip(1, 1, 2, 1, 1, 0) = 7; threats(0) = 128""");
        check.test("Returns the set of ships", SUNK, "# neither by a sunk ship nor at one",
            "threats(0) = 0; threats(1) = 0");
        check.test("INVALID_ARGUMENT if there is no such ship.", """
            threats(0) = INVALID_ARGUMENT; addShip(0, 40, 0, 1, 1, 0) = 0; threats(1) = INVALID_ARGUMENT
            threats(-1) = INVALID_ARGUMENT; threats(0) = 0""");
    }

    private void strength() {
        check.section("Promise 29: strength");
        String words = "over all own ships that float, the sum of hull times 0.75, crew times 0.5, and guns times "
        + "sails times 0.125, cut to a whole number once.";
        // sails, crew, guns: the strength cut; 15.5, 15.625, 15.875, 16, 16, 16.125, 44, 43.875
        int[][] rows = {{1, 1, 0, 15}, {1, 1, 1, 15}, {1, 1, 3, 15}, {1, 1, 4, 16}, {1, 2, 0, 16}, {1, 2, 1, 16},
            {8, 40, 9, 44}, {7, 40, 9, 42}, {8, 39, 9, 43}};
        for (int[] row : rows) {
            check.test(words, "addShip(1, 40, 0, " + row[0] + ", " + row[1] + ", " + row[2] + ") = 0",
                "strength(1) = " + row[3] + "; strength(0) = 0");
        }
        check.test(words, """
            # cut once: 15.5 and 15.5 are 31, and 15.625 eight times are 125
            addShip(0, 0, 0, 1, 1, 0) = 0; addShip(0, 2, 0, 1, 1, 0) = 1; strength(0) = 31""");
        check.test(words, """
            addShip(0, 0, 0, 1, 1, 1) = 0; addShip(0, 2, 0, 1, 1, 1) = 1; addShip(0, 4, 0, 1, 1, 1) = 2
            addShip(0, 6, 0, 1, 1, 1) = 3
            addShip(0, 20, 0, 1, 1, 1) = 4; addShip(0, 22, 0, 1, 1, 1) = 5; addShip(0, 24, 0, 1, 1, 1) = 6
            strength(0) = 109
            addShip(0, 26, 0, 1, 1, 1) = 7; strength(0) = 125; strength(1) = 0""");
        check.test(words, PAIR, MOVES, "# 17 times 0.75, 7 times 0.5 and 1 are 17.25",
            "strength(1) = 20; fire(0, 1, 1) = 3; strength(1) = 17; strength(0) = 20");
        check.test(words, SUNK, "strength(1) = 0; strength(0) = 28");
        check.test(words, "addShip(0, 40, 0, 8, 40, 1) = 0; addShip(1, 41, 0, 8, 1, 1) = 1", MOVES,
            "grapple(0, 1) = 41; strength(0) = 36; strength(1) = 16; end() = 1; strength(0) = 51; strength(1) = 0");
        check.range("`captain`: 0 or 1", PAIR, "strength(#)", 0, 1, "strength(#) = 20");
        check.test("Returns the strength; INVALID_ARGUMENT if captain is out of range.",
            "strength(-1) = INVALID_ARGUMENT; strength(0) = 0; strength(1) = 0; strength(2) = INVALID_ARGUMENT");
    }
}
