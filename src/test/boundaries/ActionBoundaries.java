/** The sentences of the promises 1 to 17. */
final class ActionBoundaries {
    private static final String MOVES = "tell(0, 0) = 1; tell(1, 0) = 3\n";
    /** The wind is 2 with a strength of 3 then, so that a heading of 1 gives six steps with all sails. */
    private static final String FAST_MOVES = "tell(0, 1) = 1; tell(1, 1) = 3\n";

    private final Boundaries check;

    private ActionBoundaries(Boundaries check) {
        this.check = check;
    }

    static void all(Boundaries check) {
        ActionBoundaries tests = new ActionBoundaries(check);
        tests.newObject();
        tests.setIsland();
        tests.addShip();
        tests.addShipErrors();
        tests.setTimber();
        tests.tell();
        tests.sail();
        tests.sailErrors();
        tests.fire();
        tests.fireErrors();
        tests.grapple();
        tests.grappleErrors();
        tests.cut();
        tests.repair();
        tests.repairErrors();
        tests.end();
        tests.take();
        tests.restore();
        tests.undo();
        tests.append();
        tests.clearText();
        tests.carryOut();
        tests.carryOutCounts();
        tests.carryOutErrors();
    }

    /** Eight ships on the hexes 0, 10 to 70 with a heading of 1, those with odd numbers of captain 1. */
    static String eightShips() {
        StringBuilder rows = new StringBuilder();
        for (int ship = 0; ship < 8; ship++) {
            rows.append("addShip(" + ship % 2 + ", " + 10 * ship + ", 1, 7, 8, 8) = " + ship + "\n");
        }
        return rows.toString();
    }

    private void newObject() {
        check.section("Promise 1: A new object");
        check.test("Creates a board without islands and ships, with an empty text.", """
            count(5) = 0; count(6) = 0; count(7) = 0; count(11) = 0; captain(0, 3) = 0; captain(1, 3) = 0
            ship(0, 0) = INVALID_ARGUMENT; on(0) = NONE; on(40) = NONE; on(80) = NONE
            clearText() = 0; carryOut() = -1000; undo() = ILLEGAL_STATE; restore(0) = ILLEGAL_STATE
            restore(1) = ILLEGAL_STATE
            setIsland(0, 1) = 1; addShip(0, 80, 0, 1, 1, 0) = 0; append(1) = 1""");
    }

    private void setIsland() {
        check.section("Promise 2: setIsland");
        check.test("Makes a hex an island or not.", """
            setIsland(40, 1) = 1; on(40) = 8; on(39) = NONE; on(41) = NONE; setIsland(40, 1) = 1; on(40) = 8
            setIsland(40, 0) = 0; on(40) = NONE; setIsland(40, 0) = 0; on(40) = NONE""");
        check.action("", "setIsland(40, 1) = 1");
        check.action("setIsland(40, 1) = 1", "setIsland(40, 0) = 0");
        check.action("setIsland(40, 1) = 1", "setIsland(40, 1) = 1");
        check.action("", "setIsland(40, 0) = 0");
        check.range("`hex`: 0 to 80", "", "setIsland(#, 1)", 0, 80,
            "setIsland(#, 1) = 1; on(#) = 8; setIsland(#, 0) = 0; on(#) = NONE");
        check.range("`hex`: 0 to 80", "setIsland(44, 1) = 1", "setIsland(#, 0)", 0, 80,
            "setIsland(#, 0) = 1; on(#) = NONE");
        check.range("`is`: 1 for an island, 0 for none", "", "setIsland(40, #)", 0, 1,
            "setIsland(40, #) = #; count(7) = #");
        StringBuilder all = new StringBuilder();
        for (int hex = 0; hex < 81; hex++) {
            all.append("setIsland(" + hex + ", 1) = " + (hex + 1) + "\n");
        }
        check.test("Returns the number of islands then", all.toString(), """
            setIsland(80, 1) = 81; count(7) = 81; setIsland(80, 0) = 80; setIsland(80, 0) = 80; setIsland(0, 0) = 79
            count(7) = 79
            addShip(0, 40, 0, 1, 1, 0) = ILLEGAL_STATE; addShip(0, 80, 0, 1, 1, 0) = 0""");
        check.test("INVALID_ARGUMENT if an argument is out of range", """
            addShip(0, 40, 0, 1, 1, 0) = 0
            setIsland(40, 2) = INVALID_ARGUMENT; setIsland(40, -1) = INVALID_ARGUMENT
            setIsland(81, 2) = INVALID_ARGUMENT; setIsland(-1, 0) = INVALID_ARGUMENT""");
        String floats = "ILLEGAL_STATE if a ship floats on it, whatever is told.";
        check.test(floats, """
            addShip(0, 40, 0, 1, 1, 0) = 0
            setIsland(40, 1) = ILLEGAL_STATE; setIsland(40, 0) = ILLEGAL_STATE; on(40) = 0; setIsland(39, 1) = 1
            setIsland(41, 1) = 2; setIsland(39, 0) = 1""");
        check.test(floats, "addShip(0, 40, 1, 8, 40, 9) = 0; addShip(1, 41, 0, 8, 8, 9) = 1", MOVES, """
            # a ship has sailed from one hex to the other, and another is sunk
            setIsland(49, 1) = 1; setIsland(49, 0) = 0; sail(0, 1) = 49
            setIsland(49, 1) = ILLEGAL_STATE; setIsland(40, 1) = 1; setIsland(40, 0) = 0; end() = 1
            setIsland(49, 0) = ILLEGAL_STATE""");
        check.test(floats, "addShip(0, 40, 0, 8, 40, 9) = 0; addShip(1, 49, 0, 8, 8, 9) = 1", MOVES, """
            setIsland(49, 1) = ILLEGAL_STATE; setIsland(49, 0) = ILLEGAL_STATE; fire(0, 1, 1) = 27
            setIsland(49, 0) = 0; setIsland(49, 1) = 1; on(49) = 8""");
    }

    private void addShip() {
        check.section("Promise 3: addShip");
        check.test("Adds a ship.", """
            count(5) = 0; addShip(1, 44, 5, 6, 7, 8) = 0; count(5) = 1; count(6) = 1; on(44) = 0; on(43) = NONE
            ship(0, 0) = 1; ship(0, 1) = 44; ship(0, 2) = 5; ship(0, 3) = 20; ship(0, 4) = 6; ship(0, 5) = 7
            ship(0, 6) = 8
            ship(0, 7) = NONE; ship(0, 8) = 3; ship(0, 9) = 0; ship(0, 10) = 0; ship(1, 0) = INVALID_ARGUMENT""");
        check.action("", "addShip(1, 44, 5, 6, 7, 8) = 0");
        check.range("`captain`: 0 or 1", "", "addShip(#, 40, 0, 1, 1, 0)", 0, 1,
            "addShip(#, 40, 0, 1, 1, 0) = 0; ship(0, 0) = #");
        check.range("`hex`: 0 to 80", "", "addShip(0, #, 0, 1, 1, 0)", 0, 80,
            "addShip(0, #, 0, 1, 1, 0) = 0; ship(0, 1) = #; on(#) = 0");
        check.range("`heading`: 0 to 5", "", "addShip(0, 40, #, 1, 1, 0)", 0, 5,
            "addShip(0, 40, #, 1, 1, 0) = 0; ship(0, 2) = #");
        check.range("`sails`: 1 to 8", "", "addShip(0, 40, 0, #, 1, 0)", 1, 8,
            "addShip(0, 40, 0, #, 1, 0) = 0; ship(0, 4) = #");
        check.range("`crew`: 1 to 40", "", "addShip(0, 40, 0, 1, #, 0)", 1, 40,
            "addShip(0, 40, 0, 1, #, 0) = 0; ship(0, 5) = #");
        check.range("`guns`: 0 to 9", "", "addShip(0, 40, 0, 1, 1, #)", 0, 9,
            "addShip(0, 40, 0, 1, 1, #) = 0; ship(0, 6) = #");
        check.test("Returns its number", eightShips(), "ship(7, 1) = 70; on(70) = 7; count(5) = 8; count(6) = 255");
        check.test("Returns its number", MOVES, """
            # in the part of the moves too, and after the end of a turn
            addShip(0, 40, 0, 1, 1, 0) = 0; end() = 1; addShip(1, 41, 0, 1, 1, 0) = 1""");
    }

    private void addShipErrors() {
        check.test("INVALID_ARGUMENT if an argument is out of range", eightShips(), """
            # ahead of the other two errors
            addShip(2, 0, 0, 1, 1, 0) = INVALID_ARGUMENT; addShip(0, 81, 0, 1, 1, 0) = INVALID_ARGUMENT
            addShip(0, 0, 6, 1, 1, 0) = INVALID_ARGUMENT
            addShip(0, 0, 0, 0, 1, 0) = INVALID_ARGUMENT; addShip(0, 0, 0, 1, 0, 0) = INVALID_ARGUMENT
            addShip(0, 0, 0, 1, 1, 10) = INVALID_ARGUMENT
            addShip(0, 0, 0, 1, 1, 0) = ILLEGAL_STATE""");
        check.test("ILLEGAL_STATE if the hex is not free", """
            setIsland(41, 1) = 1; addShip(0, 40, 0, 1, 1, 0) = 0
            addShip(0, 40, 0, 1, 1, 0) = ILLEGAL_STATE; addShip(1, 40, 0, 1, 1, 0) = ILLEGAL_STATE
            addShip(1, 41, 0, 1, 1, 0) = ILLEGAL_STATE
            addShip(1, 39, 0, 1, 1, 0) = 1; addShip(1, 42, 0, 1, 1, 0) = 2""");
        check.test("ILLEGAL_STATE if the hex is not free",
            "addShip(0, 40, 0, 8, 8, 9) = 0; addShip(1, 49, 0, 8, 8, 9) = 1", MOVES,
            "addShip(0, 49, 0, 1, 1, 0) = ILLEGAL_STATE; fire(0, 1, 1) = 27; addShip(0, 49, 0, 1, 1, 0) = 2");
        check.test("CAPACITY_EXCEEDED if there are 8 ships.", eightShips(), """
            addShip(0, 5, 0, 1, 1, 0) = CAPACITY_EXCEEDED; addShip(0, 10, 0, 1, 1, 0) = ILLEGAL_STATE
            setIsland(5, 1) = 1; addShip(0, 5, 0, 1, 1, 0) = ILLEGAL_STATE
            undo() = 5; undo() = 4; count(5) = 7; addShip(0, 5, 0, 1, 1, 0) = 7
            addShip(0, 6, 0, 1, 1, 0) = CAPACITY_EXCEEDED""");
    }

    private void setTimber() {
        check.section("Promise 4: setTimber");
        check.test("Gives a captain timber, in place of what there was.", """
            setTimber(0, 7) = 10; captain(0, 2) = 7; captain(1, 2) = 10; setTimber(0, 7) = 7; captain(0, 2) = 7
            setTimber(1, 0) = 10; captain(1, 2) = 0""");
        check.action("", "setTimber(1, 99) = 10");
        check.action("setTimber(1, 99) = 10", "setTimber(1, 99) = 99");
        check.range("`captain`: 0 or 1", "", "setTimber(#, 5)", 0, 1, "setTimber(#, 5) = 10; captain(#, 2) = 5");
        check.range("`timber`: 0 to 99", "setTimber(0, 50) = 10", "setTimber(0, #)", 0, 99,
            "setTimber(0, #) = 50; captain(0, 2) = #");
        check.range("`timber`: 0 to 99", "setTimber(1, 50) = 10", "setTimber(1, #)", 0, 99,
            "setTimber(1, #) = 50; captain(1, 2) = #");
        check.test("Returns the timber that there was", """
            setTimber(0, 99) = 10; setTimber(0, 0) = 99; setTimber(0, 1) = 0; setTimber(0, 98) = 1; setTimber(0, 5) = 98""");
        check.test("Returns the timber that there was", "addShip(0, 40, 0, 7, 8, 8) = 0", MOVES,
            "repair(0, 2) = 1; setTimber(0, 10) = 7");
        check.test("INVALID_ARGUMENT if an argument is out of range.",
            "setTimber(2, 100) = INVALID_ARGUMENT; setTimber(-1, -1) = INVALID_ARGUMENT; setTimber(0, 99) = 10");
    }

    // ---- a turn

    private void tell() {
        check.section("Promise 5: tell");
        check.test("Tells a card.",
            "captain(0, 1) = NONE; tell(0, 4) = 1; captain(0, 1) = 4; captain(1, 1) = NONE; captain(0, 0) = 63");
        check.action("", "tell(0, 4) = 1");
        check.action("tell(0, 4) = 1", "tell(1, 5) = 3");
        check.range("`captain`: 0 or 1", "", "tell(#, 3)", 0, 1,
            "tell(#, 3) = ?; captain(#, 1) = 3; tell(#, 3) = ILLEGAL_STATE");
        check.range("`card`: 0 to 5", "", "tell(0, #)", 0, 5, "tell(0, #) = 1; captain(0, 1) = #");
        check.range("`card`: 0 to 5", "tell(0, 5) = 1", "tell(1, #)", 0, 5, "tell(1, #) = 3; count(1) = 1");
        String set = "Returns the set of captains who have told a card in this turn";
        check.test(set, """
            tell(0, 0) = 1; tell(1, 0) = 3; end() = 1; tell(1, 1) = 2; tell(0, 1) = 3; end() = 2; tell(0, 2) = 1
            undo() = 5; tell(1, 2) = 2""");
        check.test("INVALID_ARGUMENT if an argument is out of range", MOVES, """
            tell(0, 6) = INVALID_ARGUMENT; tell(2, 1) = INVALID_ARGUMENT; tell(-1, -1) = INVALID_ARGUMENT
            tell(0, 1) = ILLEGAL_STATE""");
        check.test("ILLEGAL_STATE if this is not the part of the cards", """
            tell(0, 0) = 1; tell(1, 0) = 3; tell(0, 1) = ILLEGAL_STATE; tell(1, 5) = ILLEGAL_STATE; end() = 1
            tell(0, 1) = 1""");
        check.test("this captain has told one", """
            tell(0, 0) = 1; tell(0, 0) = ILLEGAL_STATE; tell(0, 1) = ILLEGAL_STATE; captain(0, 1) = 0; tell(1, 1) = 3""");
        check.test("this captain has told one",
            "tell(1, 5) = 2; tell(1, 4) = ILLEGAL_STATE; captain(1, 1) = 5; tell(0, 4) = 3");
        check.test("or the card is not in the hand.", """
            tell(0, 0) = 1; tell(1, 5) = 3; end() = 1
            tell(0, 0) = ILLEGAL_STATE; tell(1, 5) = ILLEGAL_STATE; tell(0, 5) = 1; tell(1, 0) = 3; end() = 2
            tell(0, 5) = ILLEGAL_STATE; tell(0, 0) = ILLEGAL_STATE; tell(1, 0) = ILLEGAL_STATE; tell(0, 1) = 1
            tell(1, 4) = 3""");
    }

    private void sail() {
        check.section("Promise 6: sail");
        String one = "addShip(0, 40, 1, 8, 40, 0) = 0\n" + FAST_MOVES;
        check.test("Lets a ship sail.", one, """
            sail(0, 121) = 57; ship(0, 1) = 57; ship(0, 2) = 2; on(40) = NONE; on(49) = NONE; on(57) = 0
            ship(0, 10) = 1""");
        check.action(one, "sail(0, 121) = 57");
        check.range("`ship`: a ship", eightShips() + FAST_MOVES, "sail(#, 2)", 0, 7,
            "sail(#, 2) = ?; ship(#, 2) = 2; ship(#, 10) = 1");
        check.range("`ship`: a ship", one, "sail(#, 1)", 0, 0, "sail(#, 1) = 49");
        for (int path : new int[] {1, 2, 3, 11, 33, 123231, 333333}) {
            check.test("`path`: a path", one, "sail(0, " + path + ") = ?; ship(0, 10) = 1");
        }
        for (int path : new int[] {0, 4, 5, -1, 10, 34, 43, 13231232, 333334, 400000, 1111111, Integer.MAX_VALUE, Integer.MIN_VALUE}) {
            check.test("`path`: a path", one, "sail(0, " + path + ") = INVALID_ARGUMENT; ship(0, 10) = 0");
        }
        check.test("Returns the hex where it is then",
            "addShip(0, 9, 4, 8, 40, 0) = 0; addShip(0, 71, 1, 8, 40, 0) = 1; tell(0, 0) = 1; tell(1, 4) = 3", """
            # hex 0, which is no error, and turns alone
            sail(0, 1) = 0; undo() = 4; sail(0, 2) = 9""");
        check.test("Returns the hex where it is then", "addShip(0, 71, 1, 8, 40, 0) = 0", FAST_MOVES,
            "sail(0, 1) = 80");
    }

    private void sailErrors() {
        check.test("INVALID_ARGUMENT if there is no such ship, or path is no path", "addShip(0, 40, 1, 8, 40, 0) = 0", """
            # in the part of the cards too
            sail(1, 1) = INVALID_ARGUMENT; sail(-1, 1) = INVALID_ARGUMENT; sail(0, 0) = INVALID_ARGUMENT
            sail(0, 4) = INVALID_ARGUMENT; sail(1, 0) = INVALID_ARGUMENT
            sail(0, 1) = ILLEGAL_STATE""");
        check.test("ILLEGAL_STATE if this is not the part of the moves", "addShip(0, 40, 1, 8, 40, 0) = 0", """
            sail(0, 1) = ILLEGAL_STATE; tell(0, 1) = 1; sail(0, 1) = ILLEGAL_STATE; tell(1, 1) = 3; sail(0, 1) = 49
            end() = 1; sail(0, 1) = ILLEGAL_STATE; tell(0, 0) = 1; sail(0, 1) = ILLEGAL_STATE; tell(1, 0) = 3
            sail(0, 1) = 58""");
        String sunk = "the ship is sunk or has sailed in this turn";
        check.test(sunk, "addShip(0, 40, 0, 8, 8, 9) = 0; addShip(1, 49, 1, 8, 40, 9) = 1", FAST_MOVES, """
            sail(1, 1) = 58; undo() = 4; fire(0, 1, 1) = 27; sail(1, 1) = ILLEGAL_STATE; sail(1, 2) = ILLEGAL_STATE
            sail(1, 0) = INVALID_ARGUMENT""");
        check.test(sunk, "addShip(0, 40, 1, 8, 8, 9) = 0; addShip(0, 44, 1, 8, 8, 9) = 1", FAST_MOVES, """
            sail(0, 2) = 40; sail(0, 3) = ILLEGAL_STATE; sail(0, 1) = ILLEGAL_STATE; sail(0, 4) = INVALID_ARGUMENT
            # another ship can, and this one in the next turn
            sail(1, 2) = 44; end() = 1; tell(0, 0) = 1; tell(1, 0) = 3; sail(0, 3) = 40""");
        // sails, steps by a strength of 3 and a turning of 5
        int[][] rows = {{1, 0}, {2, 1}, {3, 2}, {4, 3}, {6, 4}, {7, 5}, {8, 6}};
        for (int[] row : rows) {
            String ship = "addShip(0, 4, 1, " + row[0] + ", 40, 9) = 0\n" + FAST_MOVES;
            String just = "1".repeat(row[1]);
            check.test("it cannot make so many steps", ship,
                row[1] == 0 ? "ship(0, 8) = 0" : "sail(0, " + just + ") = " + (4 + 9 * row[1]));
            if (row[1] < 6) {
                check.test("it cannot make so many steps", ship,
                    "sail(0, 1" + just + ") = ILLEGAL_STATE; sail(0, 2" + just + ") = ILLEGAL_STATE");
            }
        }
        check.test("it cannot make so many steps", "addShip(0, 40, 1, 8, 8, 9) = 0; addShip(1, 41, 1, 8, 8, 9) = 1",
            FAST_MOVES,
            "grapple(0, 1) = 16; sail(0, 2) = ILLEGAL_STATE; sail(1, 2) = ILLEGAL_STATE; cut(1) = 0; sail(1, 2) = 41");
        String step = "or a step ahead is not possible.";
        check.test(step, "addShip(0, 67, 1, 8, 8, 9) = 0", FAST_MOVES,
            "sail(0, 11) = ILLEGAL_STATE; sail(0, 2211) = 65; undo() = 3; sail(0, 1) = 76");
        check.test(step, "addShip(0, 40, 1, 8, 8, 9) = 0; setIsland(58, 1) = 1", FAST_MOVES,
            "sail(0, 11) = ILLEGAL_STATE; sail(0, 112) = ILLEGAL_STATE; sail(0, 1) = 49");
        check.test(step, "addShip(0, 40, 1, 8, 8, 9) = 0; addShip(0, 58, 1, 8, 8, 9) = 1", FAST_MOVES, """
            sail(0, 11) = ILLEGAL_STATE; sail(1, 1) = 67; sail(0, 111) = ILLEGAL_STATE; sail(0, 11) = 58""");
    }

    private static final String PAIR = "addShip(0, 40, 0, 8, 8, 1) = 0; addShip(1, 49, 0, 8, 8, 1) = 1\n";

    private void fire() {
        check.section("Promise 7: fire");
        check.test("Lets a ship fire.", PAIR, MOVES, """
            fire(0, 1, 1) = 3; ship(1, 3) = 17; ship(1, 5) = 7; ship(1, 4) = 8; ship(1, 6) = 1; ship(0, 9) = 2
            ship(0, 10) = 2""");
        check.action(PAIR + MOVES, "fire(0, 1, 1) = 3");
        String three = "addShip(1, 49, 3, 8, 8, 1) = 0; addShip(0, 40, 0, 8, 8, 1) = 1; addShip(0, 48, 5, 8, 8, 1) = 2\n" + MOVES;
        check.range("`ship`: a ship", three, "fire(#, 1, 0)", 1, 2,
            "fire(#, 1, 0) = 3; ship(#, 10) = 2; ship(0, 3) = 17");
        check.range("`side`: 0 or 1", PAIR + MOVES, "fire(0, #, 1)", 0, 1, "fire(0, #, 1) = ?; ship(1, 3) = ?");
        check.test("`side`: 0 or 1", PAIR, "addShip(1, 31, 0, 8, 8, 1) = 2", MOVES, """
            fire(0, -1, 2) = INVALID_ARGUMENT; fire(0, 1, 2) = ILLEGAL_STATE; fire(0, 0, 1) = ILLEGAL_STATE
            fire(0, 2, 1) = INVALID_ARGUMENT
            fire(0, 0, 2) = 3; ship(0, 9) = 1; fire(0, 1, 1) = 3; ship(0, 9) = 3""");
        String targets = "addShip(0, 40, 0, 8, 8, 1) = 0; addShip(1, 49, 0, 8, 8, 1) = 1; addShip(1, 48, 0, 8, 8, 1) = 2\n" + MOVES;
        check.range("`target`: another ship", targets, "fire(0, 1, #)", 1, 2, "fire(0, 1, #) = 3; ship(#, 3) = 17");
        check.test("Returns the hits", PAIR, MOVES,
            "hits(0, 1, 1) = 3; fire(0, 1, 1) = 3; fire(1, 0, 0) = 2; ship(0, 3) = 18");
        check.test("Returns the hits", "addShip(0, 40, 0, 8, 8, 0) = 0; addShip(1, 49, 0, 8, 8, 9) = 1", MOVES,
            "fire(0, 1, 1) = 0; fire(1, 0, 0) = 27");
    }

    private void fireErrors() {
        check.test("INVALID_ARGUMENT if there are no such ships, both are the same, or side is out of range", PAIR, """
            # ahead of what is not possible in the part of the cards
            fire(2, 1, 1) = INVALID_ARGUMENT; fire(0, 1, 2) = INVALID_ARGUMENT; fire(-1, 1, 1) = INVALID_ARGUMENT
            fire(0, 1, -1) = INVALID_ARGUMENT
            fire(0, 1, 0) = INVALID_ARGUMENT; fire(1, 0, 1) = INVALID_ARGUMENT; fire(2, 1, 2) = INVALID_ARGUMENT
            fire(0, -1, 1) = INVALID_ARGUMENT; fire(0, 2, 1) = INVALID_ARGUMENT; fire(0, 1, 1) = ILLEGAL_STATE""");
        check.test("ILLEGAL_STATE if this is not the part of the moves", PAIR, """
            fire(0, 1, 1) = ILLEGAL_STATE; tell(0, 0) = 1; fire(0, 1, 1) = ILLEGAL_STATE; tell(1, 0) = 3
            fire(0, 1, 1) = 3
            end() = 1; fire(1, 0, 0) = ILLEGAL_STATE; tell(0, 1) = 1; tell(1, 1) = 3; fire(1, 0, 0) = 2""");
        check.test("the ship is sunk", "addShip(0, 40, 0, 8, 8, 7) = 0; addShip(1, 49, 0, 8, 40, 9) = 1", MOVES, """
            hits(1, 0, 0) = 27; fire(0, 1, 1) = 21; ship(1, 6) = 6; fire(1, 0, 0) = ILLEGAL_STATE
            fire(1, 2, 0) = INVALID_ARGUMENT""");
        check.test("the side cannot fire yet", PAIR, "addShip(1, 48, 0, 8, 8, 1) = 2; addShip(1, 31, 0, 8, 8, 1) = 3",
            MOVES, """
            # not even at another target, but the other side can
            fire(0, 1, 1) = 3; fire(0, 1, 2) = ILLEGAL_STATE; fire(0, 1, 1) = ILLEGAL_STATE; fire(0, 0, 3) = 3
            end() = 1; tell(0, 1) = 1; tell(1, 1) = 3; fire(0, 1, 2) = ILLEGAL_STATE
            end() = 2; tell(0, 2) = 1; tell(1, 2) = 3; fire(0, 1, 2) = 3""");
        String can = "or the target cannot be fired at by it.";
        check.test(can, PAIR, MOVES, "fire(0, 0, 1) = ILLEGAL_STATE; fire(1, 1, 0) = ILLEGAL_STATE; fire(1, 0, 0) = 3");
        check.test(can, """
            addShip(0, 4, 0, 8, 8, 1) = 0; addShip(1, 40, 0, 8, 8, 1) = 1; addShip(0, 16, 0, 8, 8, 1) = 2
            addShip(0, 41, 0, 8, 8, 1) = 3""",
            MOVES, """
            # four hexes away, three, and right behind
            fire(0, 1, 1) = ILLEGAL_STATE; fire(2, 1, 1) = 1; fire(3, 0, 1) = ILLEGAL_STATE
            fire(3, 1, 1) = ILLEGAL_STATE; fire(2, 1, 0) = ILLEGAL_STATE""");
        check.test(can,
            "addShip(0, 40, 0, 8, 8, 9) = 0; addShip(1, 49, 0, 8, 8, 1) = 1; addShip(0, 58, 3, 8, 8, 9) = 2", MOVES,
            "fire(0, 1, 1) = 27; fire(2, 1, 1) = ILLEGAL_STATE; fire(2, 1, 0) = ILLEGAL_STATE");
    }

    private void grapple() {
        check.section("Promise 8: grapple");
        check.test("Grapples two ships.", PAIR, MOVES,
            "ship(0, 7) = NONE; ship(1, 7) = NONE; grapple(0, 1) = 16; ship(0, 7) = 1; ship(1, 7) = 0");
        check.action(PAIR + MOVES, "grapple(0, 1) = 16");
        check.action(PAIR + MOVES, "grapple(1, 0) = 16");
        String three = "addShip(1, 40, 0, 8, 8, 1) = 0; addShip(0, 41, 0, 8, 8, 1) = 1; addShip(0, 39, 0, 8, 8, 1) = 2\n" + MOVES;
        check.range("`ship`: a ship", three, "grapple(#, 0)", 1, 2,
            "grapple(#, 0) = 16; ship(#, 7) = 0; ship(0, 7) = #");
        check.range("`other`: another ship", three, "grapple(0, #)", 1, 2,
            "grapple(0, #) = 16; ship(#, 7) = 0; ship(0, 7) = #");
        int[][] crews = {{40, 40}, {1, 1}, {1, 2}, {40, 1}};
        for (int[] crew : crews) {
            check.test("Returns the sum of both crews",
                "addShip(0, 40, 0, 8, " + crew[0] + ", 1) = 0; addShip(1, 41, 0, 8, " + crew[1] + ", 1) = 1", MOVES,
                "grapple(0, 1) = " + (crew[0] + crew[1]));
        }
        check.test("INVALID_ARGUMENT if there are no such ships, or both are the same", PAIR, """
            grapple(2, 0) = INVALID_ARGUMENT; grapple(0, 2) = INVALID_ARGUMENT; grapple(-1, 0) = INVALID_ARGUMENT
            grapple(0, -1) = INVALID_ARGUMENT
            grapple(0, 0) = INVALID_ARGUMENT; grapple(1, 1) = INVALID_ARGUMENT
            grapple(2, 2) = INVALID_ARGUMENT; grapple(0, 1) = ILLEGAL_STATE""", MOVES, """
            grapple(2, 0) = INVALID_ARGUMENT; grapple(0, 0) = INVALID_ARGUMENT; grapple(0, 1) = 16
            grapple(0, 0) = INVALID_ARGUMENT""");
    }

    private void grappleErrors() {
        check.test("ILLEGAL_STATE if this is not the part of the moves", PAIR, """
            grapple(0, 1) = ILLEGAL_STATE; tell(0, 0) = 1; grapple(0, 1) = ILLEGAL_STATE; tell(1, 0) = 3; end() = 1
            grapple(0, 1) = ILLEGAL_STATE""");
        String able = "one of them is sunk or grappled";
        check.test(able,
            "addShip(0, 40, 0, 8, 8, 9) = 0; addShip(1, 49, 0, 8, 20, 1) = 1; addShip(0, 50, 0, 8, 20, 1) = 2", MOVES,
            "fire(0, 1, 1) = 27; ship(1, 5) = 11; grapple(2, 1) = ILLEGAL_STATE; grapple(1, 2) = ILLEGAL_STATE");
        check.test(able, """
            addShip(0, 40, 0, 8, 8, 9) = 0; addShip(1, 49, 0, 8, 8, 1) = 1; addShip(0, 58, 0, 8, 8, 1) = 2
            addShip(1, 39, 0, 8, 8, 1) = 3""",
            MOVES, """
            grapple(0, 1) = 16
            grapple(2, 1) = ILLEGAL_STATE; grapple(1, 2) = ILLEGAL_STATE; grapple(3, 0) = ILLEGAL_STATE
            grapple(0, 3) = ILLEGAL_STATE
            cut(1) = 0; grapple(2, 1) = 16; grapple(3, 0) = 16""");
        check.test("they belong to one captain",
            "addShip(1, 40, 0, 8, 8, 9) = 0; addShip(1, 49, 0, 8, 8, 1) = 1; addShip(0, 41, 0, 8, 8, 1) = 2", MOVES,
            "grapple(0, 1) = ILLEGAL_STATE; grapple(1, 0) = ILLEGAL_STATE; grapple(0, 2) = 16");
        check.test("they are not on neighboring hexes",
            "addShip(0, 40, 0, 8, 8, 9) = 0; addShip(1, 50, 0, 8, 8, 1) = 1; addShip(1, 30, 0, 8, 8, 1) = 2; "
            + "addShip(1, 42, 0, 8, 8, 1) = 3; addShip(1, 58, 0, 8, 8, 1) = 4; addShip(1, 49, 0, 8, 8, 1) = 5", MOVES, """
            grapple(0, 1) = ILLEGAL_STATE; grapple(0, 2) = ILLEGAL_STATE; grapple(0, 3) = ILLEGAL_STATE
            grapple(0, 4) = ILLEGAL_STATE; grapple(0, 5) = 16""");
        String half = "or the crew of the first one is less than half of the other crew (twice the one is less than "
        + "the other).";
        int[][] rows = {{10, 19, 1}, {10, 20, 1}, {10, 21, 0}, {9, 19, 0}, {20, 40, 1}, {19, 40, 0}, {19, 39, 0},
            {19, 38, 1}, {1, 2, 1}, {1, 3, 0}, {40, 1, 1}};
        for (int[] row : rows) {
            check.test(half, "addShip(0, 40, 0, 8, " + row[0] + ", 1) = 0; addShip(1, 41, 0, 8, " + row[1] + ", 1) = 1",
                MOVES,
                "grapple(0, 1) = " + (row[2] == 1 ? "" + (row[0] + row[1]) : "ILLEGAL_STATE"));
        }
        // Both are fired at, 9 hits on each: of crews of 2 and 4, 0 and 1 are left.
        String fired = "addShip(0, 40, 0, 8, 2, 1) = 0; addShip(1, 41, 0, 8, %d, 1) = 1; addShip(0, 32, 5, 8, 40, 3) = 2; addShip(1, 49, 0, 8, 40, 3) = 3\n"
            + MOVES + "fire(2, 1, 1) = 9; fire(3, 0, 0) = 9; ship(0, 5) = 0\n";
        check.test(half, fired.formatted(4), "grapple(0, 1) = ILLEGAL_STATE; grapple(1, 0) = 1");
        check.test(half, fired.formatted(3), "# 0 is not less than 0", "grapple(0, 1) = 0");
    }

    private void cut() {
        check.section("Promise 9: cut");
        String grappled = PAIR + MOVES + "grapple(0, 1) = 16\n";
        check.test("Cuts a ship loose: it and the other one are grappled no more.", grappled,
            "cut(0) = 1; ship(0, 7) = NONE; ship(1, 7) = NONE; ship(0, 8) = 1; ship(1, 8) = 1");
        check.test("Cuts a ship loose: it and the other one are grappled no more.", PAIR,
            "addShip(0, 60, 0, 8, 8, 1) = 2; addShip(1, 61, 0, 8, 8, 1) = 3", MOVES, """
            grapple(0, 1) = 16; grapple(2, 3) = 16; cut(1) = 0; ship(2, 7) = 3; ship(3, 7) = 2; cut(2) = 3
            ship(2, 7) = NONE""");
        check.action(grappled, "cut(0) = 1");
        check.range("`ship`: a ship", grappled, "cut(#)", 0, 1, "cut(#) = ?; ship(0, 7) = NONE; ship(1, 7) = NONE");
        check.test("Returns the number of the other ship", grappled, "cut(1) = 0; grapple(1, 0) = 16; cut(0) = 1");
        check.test("INVALID_ARGUMENT if there is no such ship", """
            cut(0) = INVALID_ARGUMENT; addShip(0, 40, 0, 1, 1, 0) = 0; cut(1) = INVALID_ARGUMENT; cut(0) = ILLEGAL_STATE""");
        check.test("ILLEGAL_STATE if this is not the part of the moves", grappled, """
            end() = 1; ship(0, 7) = 1; cut(0) = ILLEGAL_STATE; tell(0, 1) = 1; cut(0) = ILLEGAL_STATE
            tell(1, 1) = 3; cut(0) = 1""");
        check.test("the ship is not grappled", PAIR, "addShip(1, 31, 0, 8, 8, 1) = 2", MOVES, """
            cut(0) = ILLEGAL_STATE; grapple(0, 1) = 16; cut(2) = ILLEGAL_STATE; cut(0) = 1; cut(0) = ILLEGAL_STATE
            cut(1) = ILLEGAL_STATE""");
        int[][] rows = {{10, 9, 1}, {10, 10, 1}, {10, 11, 0}, {1, 1, 1}, {1, 2, 0}, {40, 40, 1}, {39, 40, 0}};
        for (int[] row : rows) {
            check.test("or its crew is less than the other crew.",
                "addShip(0, 40, 0, 8, " + row[0] + ", 1) = 0; addShip(1, 41, 0, 8, " + row[1] + ", 1) = 1", MOVES,
                "grapple(0, 1) = " + (row[0] + row[1]) + "; cut(0) = " + (row[2] == 1 ? "1" : "ILLEGAL_STATE"));
        }
        check.test("or its crew is less than the other crew.",
            "addShip(0, 40, 0, 8, 8, 1) = 0; addShip(1, 41, 0, 8, 9, 1) = 1; addShip(0, 32, 5, 8, 8, 1) = 2", MOVES, """
            # as the crews are by now: a shot takes one man
            grapple(0, 1) = 17; cut(0) = ILLEGAL_STATE; fire(2, 1, 1) = 3; ship(1, 5) = 8; cut(0) = 1""");
    }

    private void repair() {
        check.section("Promise 10: repair");
        String hurt = "addShip(0, 40, 0, 8, 8, 5) = 0; addShip(1, 67, 1, 7, 25, 8) = 1\n" + MOVES + "fire(0, 1, 1) = 5\n";
        check.test("Repairs a ship.", hurt, """
            ship(1, 5) = 24; repair(1, 0) = 5; ship(1, 3) = 20; ship(1, 4) = 6; ship(1, 6) = 8; ship(1, 10) = 4
            captain(1, 2) = 5""");
        check.action(hurt, "repair(1, 0) = 5");
        check.action(hurt, "repair(1, 1) = 1");
        check.action(hurt, "repair(1, 2) = 1");
        check.range("`ship`: a ship", eightShips() + MOVES, "repair(#, 1)", 0, 7,
            "repair(#, 1) = 1; ship(#, 4) = 8; ship(#, 10) = 4");
        check.range("`what`: 0 its hull, 1 its sails, 2 its guns", hurt, "repair(1, #)", 0, 2,
            "repair(1, #) = ?; ship(1, 10) = 4");
        check.test("`what`: 0 its hull, 1 its sails, 2 its guns", hurt,
            "repair(1, 0) = 5; ship(1, 3) = 20; ship(1, 4) = 6; ship(1, 6) = 8");
        check.test("`what`: 0 its hull, 1 its sails, 2 its guns", hurt,
            "repair(1, 1) = 1; ship(1, 3) = 15; ship(1, 4) = 7; ship(1, 6) = 8");
        check.test("`what`: 0 its hull, 1 its sails, 2 its guns", hurt,
            "repair(1, 2) = 1; ship(1, 3) = 15; ship(1, 4) = 6; ship(1, 6) = 9");
        for (int timber : new int[] {1, 4, 5, 6}) {
            check.test("Returns by how many", hurt,
                "setTimber(1, " + timber + ") = 10; repair(1, 0) = " + Math.min(timber, 5));
        }
    }

    private void repairErrors() {
        String seven = "addShip(0, 40, 0, 7, 8, 8) = 0\n";
        check.test("INVALID_ARGUMENT if there is no such ship or what is out of range", seven, """
            repair(1, 1) = INVALID_ARGUMENT; repair(-1, 1) = INVALID_ARGUMENT; repair(0, -1) = INVALID_ARGUMENT
            repair(0, 3) = INVALID_ARGUMENT; repair(0, 1) = ILLEGAL_STATE""");
        check.test("ILLEGAL_STATE if this is not the part of the moves", seven, """
            repair(0, 1) = ILLEGAL_STATE; tell(0, 0) = 1; repair(0, 1) = ILLEGAL_STATE; tell(1, 0) = 3; repair(0, 1) = 1
            end() = 1; repair(0, 2) = ILLEGAL_STATE; tell(0, 1) = 1; tell(1, 1) = 3; repair(0, 2) = 1""");
        check.test("the ship is sunk", "addShip(0, 40, 0, 8, 8, 9) = 0; addShip(1, 49, 0, 8, 40, 9) = 1", MOVES, """
            fire(0, 1, 1) = 27; repair(1, 0) = ILLEGAL_STATE; repair(1, 1) = ILLEGAL_STATE; repair(1, 2) = ILLEGAL_STATE
            ship(1, 3) = 0; captain(1, 2) = 10""");
        check.test("is grappled", "addShip(0, 40, 0, 7, 8, 8) = 0; addShip(1, 49, 0, 7, 8, 8) = 1", MOVES, """
            grapple(0, 1) = 16; repair(0, 1) = ILLEGAL_STATE; repair(1, 1) = ILLEGAL_STATE; cut(0) = 1; repair(0, 1) = 1
            repair(1, 1) = 1""");
        String done = "has sailed, fired or been repaired in this turn";
        check.test(done, "addShip(0, 40, 1, 7, 8, 8) = 0", MOVES,
            "sail(0, 2) = 40; repair(0, 1) = ILLEGAL_STATE; undo() = 3; repair(0, 1) = 1");
        check.test(done, "addShip(0, 40, 0, 7, 8, 8) = 0; addShip(1, 49, 0, 7, 8, 8) = 1", MOVES,
            "fire(0, 1, 1) = 24; repair(0, 1) = ILLEGAL_STATE; undo() = 4; repair(0, 1) = 1");
        check.test(done, seven, MOVES, """
            repair(0, 2) = 1; repair(0, 1) = ILLEGAL_STATE; end() = 1; tell(0, 1) = 1; tell(1, 1) = 3; repair(0, 1) = 1""");
        String zero = "or it would be by 0.";
        check.test(zero, "addShip(0, 40, 0, 8, 8, 9) = 0", MOVES, """
            repair(0, 0) = ILLEGAL_STATE; repair(0, 1) = ILLEGAL_STATE; repair(0, 2) = ILLEGAL_STATE; ship(0, 10) = 0""");
        check.test(zero, """
            addShip(0, 40, 0, 8, 8, 1) = 0; addShip(1, 67, 0, 8, 3, 9) = 1; addShip(1, 48, 0, 8, 5, 9) = 2
            addShip(0, 39, 5, 8, 8, 1) = 3""",
            MOVES, """
            # a crew of 3, and one of 4, which a shot has left of 5
            fire(0, 1, 1) = 1; ship(1, 5) = 3; repair(1, 0) = ILLEGAL_STATE; fire(3, 1, 2) = 3; ship(2, 5) = 4
            repair(2, 0) = 1""");
        check.test(zero, seven, "setTimber(0, 1) = 10", MOVES, """
            repair(0, 1) = ILLEGAL_STATE; repair(0, 2) = ILLEGAL_STATE; setTimber(0, 2) = 1
            repair(0, 2) = ILLEGAL_STATE; repair(0, 1) = 1""");
        check.test(zero, seven, "setTimber(0, 3) = 10", MOVES, "repair(0, 2) = 1; captain(0, 2) = 0");
    }

    private void end() {
        check.section("Promise 11: end");
        check.test("Ends the turn.", PAIR, MOVES, """
            fire(0, 1, 1) = 3; sail(0, 2) = 40; ship(0, 10) = 3; end() = 1
            count(0) = 1; count(1) = 0; count(4) = 0; ship(0, 10) = 0; ship(0, 9) = 2; captain(0, 1) = NONE
            count(2) = 0; count(3) = 1""");
        check.action(PAIR + MOVES, "end() = 1");
        check.action(PAIR + MOVES + "grapple(0, 1) = 16\n", "end() = 1");
        StringBuilder turns = new StringBuilder();
        for (int turn = 0; turn < 14; turn++) {
            turns.append("tell(0, " + turn % 6 + ") = 1; tell(1, " + turn % 6 + ") = 3; end() = " + (turn + 1) + "\n");
        }
        check.test("Returns the number of the next turn", turns.toString(), "count(0) = 14; captain(0, 0) = 60");
        check.test("ILLEGAL_STATE if this is not the part of the moves.", """
            end() = ILLEGAL_STATE; tell(1, 0) = 2; end() = ILLEGAL_STATE; count(0) = 0; tell(0, 0) = 3; end() = 1
            end() = ILLEGAL_STATE; count(0) = 1""");
    }

    // ---- snapshots

    private void take() {
        check.section("Promise 12: take");
        String words = "Takes a snapshot, in place of one that is there.";
        check.test(words, """
            setIsland(1, 1) = 1; take(0) = 0; count(9) = 1; setIsland(2, 1) = 2; take(0) = 0; count(9) = 1
            setIsland(3, 1) = 3; restore(0) = 0; count(7) = 2""");
        check.test(words, """
            setIsland(1, 1) = 1; take(0) = 0; setIsland(2, 1) = 2; take(1) = 0; count(9) = 2; restore(0) = 0
            count(7) = 1; restore(1) = 0; count(7) = 2""");
        check.action("setIsland(1, 1) = 1", "take(0) = 0");
        check.action("setIsland(1, 1) = 1; take(1) = 0; setIsland(2, 1) = 2", "take(1) = 0");
        check.range("`slot`: 0 or 1", "", "take(#)", 0, 1, "take(#) = 0; count(9) = 1; restore(#) = 0");
        check.test("Returns the turn", MOVES, """
            take(0) = 0; end() = 1; take(0) = 1; take(1) = 1; tell(0, 1) = 1; tell(1, 1) = 3; end() = 2; take(1) = 2
            restore(0) = 1; take(1) = 1""");
        check.test("INVALID_ARGUMENT if slot is out of range.", """
            take(-1) = INVALID_ARGUMENT; take(2) = INVALID_ARGUMENT; count(9) = 0; take(1) = 0
            take(2) = INVALID_ARGUMENT; take(0) = 0""");
    }

    private void restore() {
        check.section("Promise 13: restore");
        String words = "Restores a snapshot, which stays.";
        check.test(words, """
            take(1) = 0; setIsland(1, 1) = 1; restore(1) = 0; count(7) = 0; count(9) = 1; setIsland(2, 1) = 1
            restore(1) = 0; count(7) = 0; restore(1) = 0""");
        check.test(words, """
            # what is done after it does not change the snapshot
            addShip(0, 40, 1, 8, 8, 9) = 0; take(0) = 0; restore(0) = 0; tell(0, 1) = 1; tell(1, 1) = 3; sail(0, 1) = 49
            setTimber(0, 1) = 10
            restore(0) = 0; ship(0, 1) = 40; captain(0, 2) = 10; count(1) = 0; captain(0, 0) = 63""");
        check.action("take(0) = 0; setIsland(1, 1) = 1", "restore(0) = 0");
        check.action("take(0) = 0", "restore(0) = 0");
        check.range("`slot`: 0 or 1", "take(0) = 0; take(1) = 0", "restore(#)", 0, 1, "restore(#) = 0");
        check.test("Returns the turn then", MOVES, """
            take(0) = 0; end() = 1; restore(0) = 0; end() = 1; take(1) = 1; tell(0, 1) = 1; tell(1, 1) = 3; end() = 2
            restore(1) = 1; restore(0) = 0""");
        check.test("INVALID_ARGUMENT if slot is out of range", """
            restore(-1) = INVALID_ARGUMENT; restore(2) = INVALID_ARGUMENT; restore(0) = ILLEGAL_STATE
            restore(1) = ILLEGAL_STATE""");
        check.test("ILLEGAL_STATE if the slot is empty.", """
            take(0) = 0; restore(1) = ILLEGAL_STATE; restore(0) = 0; undo() = 1; undo() = 0; restore(0) = ILLEGAL_STATE""");
        check.test("ILLEGAL_STATE if the slot is empty.", "take(1) = 0; restore(0) = ILLEGAL_STATE; restore(1) = 0");
    }

    private void undo() {
        check.section("Promise 14: undo");
        String words = "Removes the latest state from the history and restores it.";
        check.test(words, """
            setTimber(0, 1) = 10; setTimber(0, 2) = 1; undo() = 1; captain(0, 2) = 1; setTimber(0, 3) = 1; undo() = 1
            captain(0, 2) = 1; undo() = 0; captain(0, 2) = 10""");
        check.test(words, PAIR, MOVES, """
            grapple(0, 1) = 16; end() = 1; ship(0, 5) = 6; undo() = 5; ship(0, 5) = 8; ship(0, 7) = 1; count(0) = 0
            count(1) = 1; undo() = 4; ship(0, 7) = NONE; undo() = 3; count(4) = 1""");
        StringBuilder seven = new StringBuilder();
        for (int hex = 0; hex < 7; hex++) {
            seven.append("setIsland(" + hex + ", 1) = " + (hex + 1) + "\n");
        }
        check.test("Returns the number of states that are left in the history", seven.toString(), """
            undo() = 5; undo() = 4; undo() = 3; undo() = 2; undo() = 1; undo() = 0; undo() = ILLEGAL_STATE; count(7) = 1""");
        check.test("ILLEGAL_STATE if it is empty.", """
            undo() = ILLEGAL_STATE; setIsland(1, 1) = 1; undo() = 0; undo() = ILLEGAL_STATE; count(7) = 0
            append(101) = 1; undo() = ILLEGAL_STATE""");
    }

    // ---- the text

    private void append() {
        check.section("Promise 15: append");
        check.test("Appends a character to the text.",
            "append(101) = 1; append(59) = 2; append(101) = 3; carryOut() = 0");
        check.test("Appends a character to the text.", """
            append(101) = 1; append(59) = 2; append(59) = 3; carryOut() = -1002; append(101) = 4; carryOut() = -1002
            count(10) = 0""");
        check.range("`character`: character code, 1 to 255", "", "append(#)", 1, 255,
            "append(#) = 1; count(11) = 1; carryOut() = -1000");
        check.test("Returns the new length of the text",
            "append(1) = 1; append(255) = 2; append(1) = 3; clearText() = 3; append(1) = 1");
        check.test("INVALID_ARGUMENT if character is out of range", "write " + "e".repeat(100),
            "append(0) = INVALID_ARGUMENT; append(256) = INVALID_ARGUMENT");
        String full = "CAPACITY_EXCEEDED if the text already has 100 characters.";
        check.test(full, "write " + "e;".repeat(49), """
            append(101) = 99; append(59) = 100; append(101) = CAPACITY_EXCEEDED; append(1) = CAPACITY_EXCEEDED
            count(11) = 100; carryOut() = -1100""");
        check.test(full, "write " + "q".repeat(100),
            "append(255) = CAPACITY_EXCEEDED; clearText() = 100; append(255) = 1");
    }

    private void clearText() {
        check.section("Promise 16: clearText");
        check.test("Makes the text empty.",
            "append(116) = 1; clearText() = 1; count(11) = 0; carryOut() = -1000; append(101) = 1; carryOut() = 0");
        check.test("Returns the previous length of the text.",
            "clearText() = 0; append(1) = 1; clearText() = 1; clearText() = 0; count(10) = 0");
        check.test("Returns the previous length of the text.", "write " + "e".repeat(99), "clearText() = 99");
        check.test("Returns the previous length of the text.", "write " + "e".repeat(100),
            "clearText() = 100; clearText() = 0");
    }

    private void carryOut() {
        check.section("Promise 17: carryOut");
        String words = "Carries out the orders of the text, one after another, up to the first one that returns an "
        + "error code, and makes the text empty.";
        check.test(words, PAIR, "write t0,0;t1,0;f0,1,1;g0,1;x0;s0,2;r1,1;e", """
            # ship 1 has all its sails, so its repair is refused and the end is not carried out
            carryOut() = 6; count(11) = 0; count(0) = 0; count(1) = 1; ship(1, 3) = 17; ship(0, 7) = NONE
            ship(0, 2) = 1; ship(0, 10) = 3; ship(1, 10) = 0""");
        check.test(words, PAIR, "write t0,0;t1,0;f0,1,1;g0,1;x0;s0,2;r1,0;e", """
            # each kind of order
            carryOut() = 8; count(11) = 0; count(0) = 1; count(1) = 0; ship(1, 3) = 18; captain(1, 2) = 9
            ship(0, 2) = 1; ship(0, 9) = 2""");
        check.test(words, PAIR, "write t0,0;t0,1;t1,0",
            "carryOut() = 1; count(4) = 1; captain(0, 1) = 0; count(11) = 0");
        check.test(words, PAIR, "write t0,6;t0,0", "carryOut() = 0; count(4) = 0; count(11) = 0");
        check.test(words, PAIR, "write t0,0;t1,0;x2", "carryOut() = 2; count(1) = 1");
        check.test(words, PAIR, "write t0,0;t1,0;f0,0,1;e", "carryOut() = 2; count(0) = 0");
        check.test(words, PAIR, "write t0,0;t1,0;g0,1;e;e", "carryOut() = 4; count(0) = 1; ship(0, 5) = 6");
        check.test(words, "addShip(0, 9, 4, 8, 40, 0) = 0; addShip(1, 36, 5, 8, 8, 0) = 1",
            "write t0,0;t1,4;s0,1;f1,1,0", """
            # an answer of 0 is no error: the ship comes to hex 0
            carryOut() = 3; ship(0, 1) = 0""");
        check.test(words, "addShip(0, 40, 1, 8, 40, 0) = 0", "write t0,1;t1,1;s0,111122;e",
            "carryOut() = 4; ship(0, 1) = 76; ship(0, 2) = 3");
        check.test(words, "addShip(0, 40, 1, 8, 40, 0) = 0", "write t0,1;t1,1;s0,999999;e",
            "carryOut() = 2; ship(0, 1) = 40; count(0) = 0");
        String action = "If the text has no fault, this is one action, also if no order is carried out.";
        check.test(action, PAIR, "write t0,0;t1,0;f0,1,1;e", """
            count(10) = 2; carryOut() = 4; count(10) = 3; undo() = 2; count(0) = 0; count(4) = 0; ship(1, 3) = 20
            ship(0, 9) = 0; captain(0, 0) = 63; count(11) = 0""");
        check.test(action, PAIR, "write e", "carryOut() = 0; count(10) = 3; count(11) = 0; undo() = 2; count(11) = 0");
        check.test(action, PAIR, "write e;", "carryOut() = -1002; count(10) = 2");
        check.test(action, """
            setIsland(1, 1) = 1; setIsland(2, 1) = 2; setIsland(3, 1) = 3; setIsland(4, 1) = 4; setIsland(5, 1) = 5
            setIsland(6, 1) = 6""",
            "write e", """
                carryOut() = 0; count(10) = 6; undo() = 5; count(7) = 6; undo() = 4; count(7) = 5; undo() = 3
                undo() = 2; undo() = 1; undo() = 0; count(7) = 1""");
    }

    private void carryOutCounts() {
        String words = "Returns the number of orders that are carried out";
        check.test(words, "write e", "carryOut() = 0");
        check.test(words, "write t0,0", "carryOut() = 1");
        check.test(words, "write t0,0;t0,0", "carryOut() = 1");
        check.test(words, "write t0,0;t1,0", "carryOut() = 2");
        StringBuilder turns = new StringBuilder();
        for (int turn = 0; turn < 8; turn++) {
            turns.append("t0,").append(turn % 6).append(";t1,").append(turn % 6).append(";e;");
        }
        check.test(words, "write " + turns + "t1,5",
            "count(11) = 100; carryOut() = 25; count(0) = 8; count(4) = 2; count(10) = 1; undo() = 0; count(0) = 0");
        check.test(words, "write " + turns + "t1,1", "# the last of 25 orders tells a card that is not in the hand",
            "carryOut() = 24; count(0) = 8; count(4) = 0");
    }

    private void carryOutErrors() {
        String fault = "-1000 minus the fault of the text if it has one (which is an error).";
        check.test(fault, "carryOut() = -1000; count(10) = 0");
        check.test(fault, "write q", "carryOut() = -1000; count(11) = 1");
        check.test(fault, "write eq", "carryOut() = -1001; count(11) = 2");
        check.test(fault, PAIR, "write t0,0;t1,0;q", """
            # no order ahead of the fault is carried out, and the text stays
            carryOut() = -1010; count(4) = 0; count(11) = 11; carryOut() = -1010; clearText() = 11; count(10) = 2""");
        check.test(fault, "write " + "e;".repeat(49) + "ee", "carryOut() = -1099; count(11) = 100");
        check.test(fault, "write " + "e;".repeat(50), "carryOut() = -1100; count(11) = 100");
        check.test(fault, "write t0,", "carryOut() = -1003; append(48) = 4; carryOut() = 1");
    }
}
