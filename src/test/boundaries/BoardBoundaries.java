/** The sentences of "What it is", "Terms", "Board", "Wind and cards" and "Ships". */
final class BoardBoundaries {
    private static final int[] ROW_STEP = {0, 1, 1, 0, -1, -1};
    private static final int[] COLUMN_STEP = {1, 0, -1, -1, 0, 1};
    private static final int[] FACTOR = {6, 8, 4, 0, 4, 8};

    private final Boundaries check;

    private BoardBoundaries(Boundaries check) {
        this.check = check;
    }

    static void all(Boundaries check) {
        BoardBoundaries tests = new BoardBoundaries(check);
        tests.whatItIs();
        tests.terms();
        tests.board();
        tests.nextHexes();
        tests.neighbors();
        tests.freeHexes();
        tests.wind();
        tests.windTurns();
        tests.hands();
        tests.shipsAtMost();
        tests.shipValues();
        tests.turnings();
        tests.steps();
        tests.pathDigits();
        tests.pathSteps();
        tests.pathsInATurn();
    }

    private void whatItIs() {
        check.section("What it is");
        check.plain("Sailing ships on a board of hexes");
        StringBuilder rows = new StringBuilder();
        for (int i = 0; i < 255; i++) {
            rows.append("setIsland(80, 1) = 1; setIsland(80, 0) = 0\n");
        }
        rows.append("setIsland(80, 1) = 1\n");
        check.test("An object is used for at most 512 calls after it has been made; what later calls answer is free.",
            rows.toString(), "# the last call that the document tells about", "on(80) = 8");
        rows.setLength(0);
        for (int i = 0; i < 256; i++) {
            rows.append("take(0) = 0; undo() = 0\n");
        }
        check.test("An object is used for at most 512 calls", rows.toString());
    }

    private void terms() {
        check.section("Terms");
        check.test("All numbers are whole.", """
            # 15.625 (20 * 0.75 + 0.5 + 0.125)
            addShip(0, 40, 0, 1, 1, 1) = 0; strength(0) = 15""");
        check.test("All numbers are whole.", "addShip(0, 40, 0, 1, 1, 3) = 0; strength(0) = 15");
        check.test("All numbers are whole.", "addShip(0, 40, 0, 1, 1, 4) = 0; strength(0) = 16");
        check.test("All numbers are whole.", "addShip(0, 40, 0, 1, 1, 5) = 0; strength(0) = 16");
        check.test("Sets are bit masks: bit k is for number k.", """
            addShip(0, 0, 0, 1, 1, 0) = 0
            count(6) = 1; captain(0, 3) = 1; captain(1, 3) = 0
            addShip(1, 2, 0, 1, 1, 0) = 1; count(6) = 3
            addShip(1, 4, 0, 1, 1, 0) = 2; addShip(1, 6, 0, 1, 1, 0) = 3; addShip(1, 8, 0, 1, 1, 0) = 4
            addShip(1, 20, 0, 1, 1, 0) = 5; addShip(1, 22, 0, 1, 1, 0) = 6; count(6) = 127
            addShip(0, 24, 0, 1, 1, 0) = 7; count(6) = 255
            captain(0, 3) = 129; captain(1, 3) = 126
            tell(1, 5) = 2; count(4) = 2; tell(0, 0) = 3; count(4) = 3
            captain(0, 0) = 62; captain(1, 0) = 31""");
        int[][] rounded = {{3, 0}, {4, 1}, {5, 1}, {7, 1}, {8, 2}};
        for (int[] one : rounded) {
            check.test("Where something is divided, the result is rounded down.",
                "# 8 times 1 times " + one[0] + " sails, divided by 32",
                "addShip(0, 40, 1, " + one[0] + ", 40, 0) = 0; tell(0, 0) = 1; tell(1, 0) = 3",
                "ship(0, 8) = " + one[1]);
        }
    }

    // ---- the board

    private void board() {
        check.section("Board");
        check.test("The board has 81 hexes in 9 rows of 9", """
            on(-1) = INVALID_ARGUMENT; on(0) = NONE; on(1) = NONE
            on(79) = NONE; on(80) = NONE; on(81) = INVALID_ARGUMENT""");
        check.test("hex h is in the row h divided by 9 and in the column that is left over.", """
            # 8 ends the first row and 9 begins the second one
            addShip(0, 7, 0, 8, 40, 0) = 0; addShip(0, 10, 3, 8, 40, 0) = 1
            tell(0, 1) = 1; tell(1, 0) = 3
            way(0, 8, 0) = 1; way(0, 9, 0) = NONE; sail(0, 11) = ILLEGAL_STATE; sail(0, 1) = 8
            way(1, 9, 0) = 1; way(1, 8, 0) = NONE; sail(1, 11) = ILLEGAL_STATE; sail(1, 1) = 9""");
        check.test("A hex that is not on the board does not exist.", """
            addShip(0, 0, 3, 8, 40, 0) = 0; addShip(0, 80, 1, 8, 40, 0) = 1
            tell(0, 1) = 1; tell(1, 1) = 3
            sail(0, 1) = ILLEGAL_STATE; sail(1, 1) = ILLEGAL_STATE
            way(0, -1, 0) = INVALID_ARGUMENT; way(1, 81, 0) = INVALID_ARGUMENT
            way(0, 1, 0) = 2221; way(0, 9, 0) = 331; way(1, 71, 0) = 2221; way(1, 79, 0) = 221""");
        StringBuilder everywhere = new StringBuilder();
        for (int hex = 0; hex < 81; hex++) {
            everywhere.append("on(" + hex + ") = NONE\n");
        }
        check.test("A hex can be an island (at first none is).", everywhere.toString(), """
            count(7) = 0; setIsland(0, 1) = 1; on(0) = 8; on(1) = NONE; setIsland(80, 1) = 2; on(80) = 8; on(79) = NONE""");
    }

    private void nextHexes() {
        for (int hex = 0; hex < 81; hex++) {
            for (int direction = 0; direction < 6; direction++) {
                int next = next(hex, direction);
                check.test("the next hex in the direction 0 is in the next column of the same row, in 1 in the same "
                    + "column "
                    + "of the next row, in 2 in the column before of the next row, in 3 in the column before of the "
                    + "same "
                    + "row, in 4 in the same column of the row before, in 5 in the next column of the row before.",
                    "addShip(0, " + hex + ", " + direction + ", 8, 40, 0) = 0",
                    "tell(0, " + (direction == 4 ? 4 : 1) + ") = 1; tell(1, 0) = 3",
                    "sail(0, 1) = " + (next < 0 ? "ILLEGAL_STATE" : "" + next));
            }
        }
        check.test("From a hex there are six directions", """
            addShip(0, 40, -1, 8, 40, 0) = INVALID_ARGUMENT; addShip(0, 40, 6, 8, 40, 0) = INVALID_ARGUMENT
            addShip(0, 40, 0, 8, 40, 0) = 0; addShip(0, 44, 5, 8, 40, 0) = 1""");
    }

    private static int next(int hex, int direction) {
        int row = hex / 9 + ROW_STEP[direction];
        int column = hex % 9 + COLUMN_STEP[direction];
        return row < 0 || row > 8 || column < 0 || column > 8 ? -1 : 9 * row + column;
    }

    private void neighbors() {
        for (int hex : new int[] {0, 8, 40, 44, 72, 80}) {
            for (int other = 0; other < 81; other++) {
                boolean near = false;
                for (int direction = 0; direction < 6; direction++) {
                    near |= next(hex, direction) == other;
                }
                if (other != hex) {
                    check.test("Two hexes are neighbors if one is next to the other in some direction.",
                        "addShip(0, " + hex + ", 0, 1, 1, 0) = 0; addShip(1, " + other + ", 0, 1, 1, 0) = 1",
                        "tell(0, 0) = 1; tell(1, 0) = 3",
                        "grapple(0, 1) = " + (near ? "2" : "ILLEGAL_STATE"));
                }
            }
        }
    }

    private void freeHexes() {
        String free = "A hex is free if it is no island and no ship that floats is on it.";
        check.test(free, """
            setIsland(40, 1) = 1
            addShip(0, 40, 0, 8, 8, 9) = ILLEGAL_STATE
            addShip(0, 39, 0, 8, 8, 9) = 0; addShip(0, 41, 0, 8, 8, 9) = 1
            setIsland(40, 0) = 0
            addShip(0, 40, 0, 8, 8, 9) = 2
            addShip(1, 40, 0, 8, 8, 9) = ILLEGAL_STATE""");
        check.test(free, """
            # a ship that is sunk leaves its hex free
            addShip(0, 40, 0, 8, 8, 9) = 0; addShip(1, 49, 0, 8, 8, 9) = 1
            tell(0, 0) = 1; tell(1, 0) = 3
            addShip(1, 49, 0, 1, 1, 0) = ILLEGAL_STATE
            fire(0, 1, 1) = 27
            addShip(1, 49, 0, 1, 1, 0) = 2; on(49) = 2""");
        check.test(free, """
            # so does one that has sailed away
            addShip(0, 40, 1, 8, 8, 9) = 0; tell(0, 0) = 1; tell(1, 1) = 3
            sail(0, 1) = 49
            addShip(1, 49, 0, 1, 1, 0) = ILLEGAL_STATE
            addShip(1, 40, 0, 1, 1, 0) = 1""");
    }

    // ---- the wind and the cards

    private void wind() {
        check.section("Wind and cards");
        check.test("The wind blows into a direction (0 at first) with a strength of 1 to 3 (2 at first).",
            "count(2) = 0; count(3) = 2; tell(0, 5) = 1; count(2) = 0; count(3) = 2");
        int[] strength = {1, 2, 3, 1, 2, 3, 1, 2, 3, 1, 2};
        int[] direction = {0, 1, 2, 3, 4, 5, 0, 1, 2, 3, 4};
        for (int sum = 0; sum <= 10; sum++) {
            check.test("The wind blows into a direction (0 at first) with a strength of 1 to 3 (2 at first).",
                "tell(0, " + sum / 2 + ") = 1; tell(1, " + (sum - sum / 2) + ") = 3",
                "count(2) = " + direction[sum] + "; count(3) = " + strength[sum]);
        }
        check.test("There are two captains, 0 and 1; each has a hand of cards, at first the cards 0 to 5.", """
            captain(-1, 0) = INVALID_ARGUMENT; captain(0, 0) = 63; captain(1, 0) = 63; captain(2, 0) = INVALID_ARGUMENT
            tell(0, -1) = INVALID_ARGUMENT; tell(0, 6) = INVALID_ARGUMENT; tell(0, 0) = 1; tell(1, 5) = 3""");
        check.test("A turn (turn 0 at first) has two parts.", """
            count(0) = 0; count(1) = 0
            tell(0, 0) = 1; count(1) = 0; tell(1, 0) = 3; count(1) = 1; count(0) = 0
            end() = 1; count(0) = 1; count(1) = 0
            tell(0, 1) = 1; tell(1, 1) = 3; count(1) = 1; count(0) = 1""");
        check.test("In the part of the cards each captain tells one card of the own hand", """
            tell(0, 5) = 1
            tell(0, 5) = ILLEGAL_STATE; tell(0, 4) = ILLEGAL_STATE
            tell(1, 0) = 3
            tell(1, 1) = ILLEGAL_STATE
            end() = 1
            tell(0, 5) = ILLEGAL_STATE; tell(1, 0) = ILLEGAL_STATE
            # a card that the other captain alone has told is in the own hand
            tell(0, 0) = 1; tell(1, 5) = 3""");
        check.test("(it stays in the hand until both have told one)", """
            tell(1, 0) = 2; captain(1, 0) = 63
            tell(0, 5) = 3; captain(1, 0) = 62; captain(0, 0) = 31""");
        check.test("It lasts until the turn is ended; then the next turn begins.", """
            end() = ILLEGAL_STATE
            tell(0, 0) = 1; end() = ILLEGAL_STATE; tell(1, 0) = 3
            tell(0, 1) = ILLEGAL_STATE; count(1) = 1
            end() = 1; count(1) = 0; count(0) = 1
            end() = ILLEGAL_STATE; tell(0, 1) = 1""");
    }

    private void windTurns() {
        String words = "the wind's direction becomes greater by the sum of both cards (less 6 as often as it is "
        + "above 5)";
        // From direction 5: sums 0, 1, 6, 7, 9 and 10, that is 5, 6, 11, 12, 14 and 15.
        int[][] rows = {{0, 0, 5, 1}, {1, 0, 0, 2}, {1, 5, 5, 1}, {2, 5, 0, 2}, {5, 4, 2, 1}, {5, 5, 3, 2}};
        for (int[] row : rows) {
            check.test(words, "tell(0, 4) = 1; tell(1, 1) = 3; count(2) = 5; count(3) = 3; end() = 1",
                "tell(0, " + row[0] + ") = 1; tell(1, " + row[1] + ") = 3",
                "count(2) = " + row[2] + "; count(3) = " + row[3]);
        }
        check.test("its strength becomes the sum left over by 3, plus 1, both cards leave their hands", """
            # a sum of 2, of 3 and of 4: what the strength was before plays no part
            tell(0, 1) = 1; tell(1, 1) = 3; count(3) = 3; captain(0, 0) = 61; captain(1, 0) = 61; end() = 1
            tell(0, 0) = 1; tell(1, 3) = 3; count(3) = 1; captain(0, 0) = 60; captain(1, 0) = 53; end() = 2
            tell(0, 2) = 1; tell(1, 2) = 3; count(3) = 2; captain(0, 0) = 56; captain(1, 0) = 49""");
    }

    private void hands() {
        StringBuilder rows = new StringBuilder();
        for (int card = 0; card < 5; card++) {
            rows.append("tell(0, " + card + ") = 1; tell(1, " + (5 - card) + ") = 3\n");
            rows.append("captain(0, 0) = " + (63 >> card + 1 << card + 1) + "; captain(1, 0) = " + (31 >> card) + "\n");
            rows.append("end() = " + (card + 1) + "\n");
        }
        check.test("(a hand that is empty then gets the cards 0 to 5 back)", rows.toString(), """
            # one card is left to each: the hand is not empty yet
            captain(0, 0) = 32; captain(1, 0) = 1
            tell(0, 4) = ILLEGAL_STATE; tell(0, 5) = 1; captain(0, 0) = 32
            tell(1, 0) = 3; captain(0, 0) = 63; captain(1, 0) = 63; count(1) = 1
            end() = 6
            tell(0, 5) = 1; tell(1, 0) = 3; captain(0, 0) = 31; captain(1, 0) = 62""");
        check.test("and the part of the moves begins.", """
            tell(0, 0) = 1; count(1) = 0; end() = ILLEGAL_STATE; tell(1, 5) = 3; count(1) = 1; end() = 1""");
    }

    // ---- ships

    private void shipsAtMost() {
        check.section("Ships");
        String most = "There are at most 8 ships, numbered from 0 in the order in which they were added.";
        String seven = """
            addShip(1, 10, 0, 8, 8, 9) = 0; addShip(0, 19, 0, 8, 8, 9) = 1; addShip(0, 30, 0, 1, 1, 0) = 2
            addShip(1, 32, 0, 1, 1, 0) = 3; addShip(0, 34, 0, 1, 1, 0) = 4; addShip(1, 50, 0, 1, 1, 0) = 5
            addShip(0, 52, 0, 1, 1, 0) = 6
            """;
        check.test(most, seven, """
            ship(7, 0) = INVALID_ARGUMENT
            addShip(1, 54, 0, 1, 1, 0) = 7; count(5) = 8
            addShip(1, 56, 0, 1, 1, 0) = CAPACITY_EXCEEDED
            ship(7, 0) = 1; ship(8, 0) = INVALID_ARGUMENT; count(5) = 8""");
        check.test(most, seven, """
            # a ship that is sunk is one of the 8, and keeps its number
            tell(0, 0) = 1; tell(1, 0) = 3; fire(0, 1, 1) = 27; count(6) = 125; count(5) = 7
            addShip(1, 19, 0, 1, 1, 0) = 7
            addShip(1, 56, 0, 1, 1, 0) = CAPACITY_EXCEEDED
            ship(1, 1) = NONE; on(19) = 7""");
        check.test(most, """
            # the number of a ship whose adding is undone is free again
            addShip(0, 10, 0, 1, 1, 0) = 0; addShip(0, 12, 0, 1, 1, 0) = 1; undo() = 1
            addShip(1, 14, 3, 2, 2, 2) = 1; ship(1, 1) = 14; ship(1, 0) = 1; on(12) = NONE""");
        check.test("A ship belongs to a captain.", """
            addShip(-1, 10, 0, 1, 1, 0) = INVALID_ARGUMENT; addShip(2, 10, 0, 1, 1, 0) = INVALID_ARGUMENT
            addShip(0, 10, 0, 1, 1, 0) = 0; addShip(1, 12, 0, 1, 1, 0) = 1
            ship(0, 0) = 0; ship(1, 0) = 1; captain(0, 3) = 1; captain(1, 3) = 2""");
    }

    private void shipValues() {
        check.test("It floats, on a hex with a heading of 0 to 5, or it is sunk.", """
            addShip(0, 40, 0, 8, 8, 9) = 0; addShip(1, 49, 5, 8, 8, 9) = 1
            tell(0, 0) = 1; tell(1, 0) = 3
            ship(0, 1) = 40; ship(0, 2) = 0; ship(1, 1) = 49; ship(1, 2) = 5; count(6) = 3
            fire(0, 1, 1) = 27
            ship(1, 1) = NONE; ship(1, 2) = 5; on(49) = NONE; count(6) = 1; count(5) = 2""");
        String values = "It has a hull of 0 to 20 (20 at first), 0 to 8 sails, a crew of 0 to 40, "
            + "and on each of its two sides 0 to 9 guns (as many on both).";
        check.test(values, """
            addShip(0, 40, 0, 8, 40, 9) = 0; addShip(1, 49, 0, 1, 1, 0) = 1
            ship(0, 3) = 20; ship(0, 4) = 8; ship(0, 5) = 40; ship(0, 6) = 9
            ship(1, 3) = 20; ship(1, 4) = 1; ship(1, 5) = 1; ship(1, 6) = 0
            tell(0, 0) = 1; tell(1, 0) = 3
            repair(0, 0) = ILLEGAL_STATE; repair(0, 1) = ILLEGAL_STATE; repair(0, 2) = ILLEGAL_STATE
            fire(0, 1, 1) = 27
            # 7 hits more than the hull, and all of the others too, end at 0
            ship(1, 3) = 0; ship(1, 4) = 0; ship(1, 5) = 0; ship(1, 6) = 0""");
        check.test("(as many on both)", """
            addShip(0, 40, 0, 8, 40, 9) = 0; addShip(1, 58, 0, 8, 8, 9) = 1; addShip(1, 22, 0, 8, 8, 9) = 2
            hits(0, 0, 2) = 18; hits(0, 1, 1) = 18
            tell(0, 0) = 1; tell(1, 0) = 3
            # 18 hits on the ship take 3 guns from both of its sides
            fire(2, 1, 0) = 18; ship(0, 6) = 6; hits(0, 0, 2) = 12; hits(0, 1, 1) = 12""");
    }

    private void turnings() {
        String words = "The turning from the wind's direction to the heading of a ship is the heading less the "
        + "direction, "
            + "plus 6 if this is below 0.";
        int[] strength = {1, 2, 3, 1, 2, 3};
        for (int direction = 0; direction < 6; direction++) {
            for (int heading = 0; heading < 6; heading++) {
                int turning = heading < direction ? heading - direction + 6 : heading - direction;
                int steps = FACTOR[turning] * strength[direction] * 8 / 32;
                check.test(words, "addShip(0, 40, " + heading + ", 8, 40, 0) = 0",
                    "tell(0, " + direction + ") = 1; tell(1, 0) = 3; count(2) = " + direction,
                    "# a turning of " + turning, "ship(0, 8) = " + steps);
            }
        }
    }

    private void steps() {
        String product = "the first is 6 if this turning is 0, 8 if it is 1 or 5, 4 if it is 2 or 4, and 0 if it is 3; "
            + "the second is the strength of the wind; the third is the number of its sails, or its crew if this is less.";
        // turning, sails, crew, steps at a strength of 1: products at 32 and 64, and beside them
        int[][] rows = {{1, 3, 40, 0}, {1, 4, 40, 1}, {1, 5, 40, 1}, {1, 7, 40, 1}, {1, 8, 40, 2}, {5, 3, 40, 0},
            {5, 4, 40, 1}, {5, 7, 40, 1}, {5, 8, 40, 2}, {0, 5, 40, 0}, {0, 6, 40, 1}, {0, 8, 40, 1}, {2, 7, 40, 0},
            {2, 8, 40, 1}, {4, 7, 40, 0}, {4, 8, 40, 1}, {3, 8, 40, 0},
            {1, 8, 7, 1}, {1, 8, 8, 2}, {1, 8, 9, 2}, {1, 4, 3, 0}, {1, 4, 4, 1}, {1, 4, 5, 1}, {1, 3, 4, 0}, {1, 5, 3,
                0},
            {1, 1, 40, 0}, {1, 8, 1, 0}};
        for (int[] row : rows) {
            check.test(product, "addShip(0, 40, " + row[0] + ", " + row[1] + ", " + row[2] + ", 0) = 0",
                "tell(0, 0) = 1; tell(1, 0) = 3; ship(0, 8) = " + row[3]);
        }
        String divided = "each other one can make as many steps in a turn as the product of three numbers, divided "
        + "by 32";
        // The cards 0, 1 and 2 beside a 0 turn the wind by as many, to a strength greater by 1.
        for (int strength = 1; strength <= 3; strength++) {
            for (int turning = 0; turning < 6; turning++) {
                for (int third = 1; third <= 8; third++) {
                    int heading = (turning + strength - 1) % 6;
                    int steps = FACTOR[turning] * strength * third / 32;
                    check.test(divided, "addShip(0, 40, " + heading + ", " + third + ", 40, 0) = 0",
                        "addShip(0, 44, " + heading + ", 8, " + third + ", 0) = 1",
                        "tell(0, " + (strength - 1) + ") = 1; tell(1, 0) = 3; count(3) = " + strength,
                        "ship(0, 8) = " + steps + "; ship(1, 8) = " + steps);
                }
            }
        }
        check.test("A ship that is grappled makes no steps", """
            addShip(0, 40, 1, 8, 40, 9) = 0; addShip(1, 41, 1, 8, 40, 9) = 1
            tell(0, 1) = 1; tell(1, 1) = 3
            ship(0, 8) = 6; ship(1, 8) = 6
            grapple(0, 1) = 80; ship(0, 8) = 0; ship(1, 8) = 0
            sail(0, 2) = ILLEGAL_STATE; sail(1, 2) = ILLEGAL_STATE; reach(0) = 0
            cut(1) = 0; ship(0, 8) = 6; ship(1, 8) = 6; sail(0, 2) = 40""");
        check.test("A sunk ship makes no steps.", """
            addShip(0, 40, 0, 8, 8, 7) = 0; addShip(1, 49, 1, 8, 40, 9) = 1
            tell(0, 0) = 1; tell(1, 0) = 3
            ship(1, 8) = 2; fire(0, 1, 1) = 21
            # a turning of 1 with 3 sails and 33 men yet
            ship(1, 4) = 3; ship(1, 5) = 33; ship(1, 8) = 0; reach(1) = 0; sail(1, 2) = ILLEGAL_STATE
            # 8 times 3 times 3, divided by 32, would be 2 steps
            end() = 1; tell(0, 1) = 1; tell(1, 1) = 3; ship(1, 8) = 0; reach(1) = 0; sail(1, 2) = ILLEGAL_STATE""");
    }

    // ---- paths

    /** A ship that can make six steps ahead from hex 4 to hex 58, the wind being 2 with a strength of 3. */
    private static String fast() {
        return "addShip(0, 4, 1, 8, 40, 0) = 0; tell(0, 1) = 1; tell(1, 1) = 3; ship(0, 8) = 6\n";
    }

    private void pathDigits() {
        String words = "A path is told as a number of 1 to 6 decimal digits, one for each step, from the first on";
        int[][] good = {{1, 13}, {2, 4}, {3, 4}, {11, 22}, {111111, 58}, {222222, 4}, {333333, 4}, {11111, 49},
            {111113, 49}};
        for (int[] row : good) {
            check.test(words, fast(), "sail(0, " + row[0] + ") = " + row[1]);
        }
        int[] bad = {0, 4, 9, -1, -3, -111, 10, 14, 41, 20, 34, 101, 121314, 111110, 111114, 411111, 333330, 333334,
            333340,
            400000, 999999, 1000000, 1111111, 3333333, 1111111111, Integer.MAX_VALUE, Integer.MIN_VALUE, -2147483647};
        for (int path : bad) {
            check.test(words, fast(), "sail(0, " + path + ") = INVALID_ARGUMENT; sail(0, 111111) = 58");
        }
        check.test("from the first on", fast(), "# a step ahead, then a turn: not the other way round",
            "sail(0, 12) = 13");
        check.test("from the first on", fast(), "sail(0, 21) = 12");
        String turn = "2 turns the heading by one direction up (from 5 to 0), 3 by one down (from 0 to 5).";
        int[][] turns = {{4, 2, 5}, {5, 2, 0}, {0, 2, 1}, {1, 3, 0}, {0, 3, 5}, {5, 3, 4}};
        for (int[] row : turns) {
            check.test(turn, "addShip(0, 40, " + row[0] + ", 8, 40, 0) = 0; tell(0, 5) = 1; tell(1, 0) = 3",
                "sail(0, " + row[1] + ") = 40; ship(0, 2) = " + row[2]);
        }
    }

    private void pathSteps() {
        String exists = "1 is a step ahead to the next hex in the direction of the heading, which has to exist and "
        + "to be free";
        check.test(exists, fast(), "sail(0, 111111) = 58");
        check.test(exists, """
            # one row and two rows farther down the sixth and the fifth step are off the board
            addShip(0, 22, 1, 8, 40, 0) = 0; addShip(0, 33, 1, 8, 40, 0) = 1; tell(0, 1) = 1; tell(1, 1) = 3
            sail(1, 111111) = ILLEGAL_STATE; sail(1, 11111) = 78
            sail(0, 111111) = 76""");
        check.test(exists, """
            addShip(0, 37, 1, 8, 40, 0) = 0; addShip(1, 64, 0, 1, 1, 0) = 1; tell(0, 1) = 1; tell(1, 1) = 3
            # a ship on the third hex, of whichever captain
            sail(0, 111) = ILLEGAL_STATE; sail(0, 1111) = ILLEGAL_STATE; sail(0, 11) = 55""");
        check.test(exists, """
            addShip(0, 37, 1, 8, 40, 0) = 0; addShip(0, 46, 0, 1, 1, 0) = 1; tell(0, 1) = 1; tell(1, 1) = 3
            sail(0, 1) = ILLEGAL_STATE; sail(0, 31) = 38""");
        check.test(exists, """
            addShip(0, 37, 1, 8, 40, 0) = 0; setIsland(64, 1) = 1; tell(0, 1) = 1; tell(1, 1) = 3
            sail(0, 111) = ILLEGAL_STATE; sail(0, 1111) = ILLEGAL_STATE; setIsland(64, 0) = 0; sail(0, 111) = 64""");
        check.test(exists, """
            # a sunk ship is no hindrance
            addShip(0, 40, 1, 8, 40, 0) = 0; addShip(1, 49, 0, 8, 8, 9) = 1; addShip(0, 50, 2, 8, 40, 9) = 2
            tell(0, 1) = 1; tell(1, 1) = 3
            sail(0, 1) = ILLEGAL_STATE; fire(2, 1, 1) = 27; sail(0, 11) = 58""");
        String own = "(the hex from which the ship began counts as free)";
        check.test(own, "addShip(0, 40, 1, 8, 40, 0) = 0; tell(0, 1) = 1; tell(1, 1) = 3",
            "# ahead, half around, and back to the own hex", "sail(0, 12221) = 40; ship(0, 2) = 4; on(40) = 0");
        check.test(own, "addShip(0, 40, 1, 8, 40, 0) = 0; tell(0, 1) = 1; tell(1, 1) = 3",
            "sail(0, 122211) = 31; on(40) = NONE; on(31) = 0");
        check.test(own, """
            # the hex of another ship does not count as free, not even behind the own one
            addShip(0, 40, 1, 8, 40, 0) = 0; addShip(0, 31, 1, 8, 40, 0) = 1; tell(0, 1) = 1; tell(1, 1) = 3
            sail(0, 122211) = ILLEGAL_STATE; sail(0, 12221) = 40""");
        check.test(own, """
            # ahead, two turns up, ahead, two turns up, is a triangle of which the last side is a step too many
            addShip(0, 40, 1, 8, 40, 0) = 0; tell(0, 1) = 1; tell(1, 1) = 3
            sail(0, 1221221) = INVALID_ARGUMENT; sail(0, 122122) = 48; ship(0, 2) = 5""");
    }

    private void pathsInATurn() {
        String words = "In each turn a ship can sail one path that has no more steps than it can make";
        String three = "addShip(0, 40, 1, 8, 40, 0) = 0; tell(0, 1) = 1; tell(1, 0) = 3; ship(0, 8) = 3\n";
        check.test(words, three, "sail(0, 11) = 58");
        check.test(words, three, "sail(0, 111) = 67");
        check.test(words, three, "sail(0, 1111) = ILLEGAL_STATE; sail(0, 2222) = ILLEGAL_STATE; sail(0, 222) = 40");
        check.test(words, three, """
            # one path alone, though a step is left
            sail(0, 11) = 58; sail(0, 1) = ILLEGAL_STATE; sail(0, 2) = ILLEGAL_STATE
            end() = 1; sail(0, 2) = ILLEGAL_STATE; tell(0, 0) = 1; tell(1, 1) = 3; sail(0, 2) = 58""");
        check.test(words, """
            # no steps at all against the wind, and one with few sails
            addShip(0, 40, 3, 8, 40, 0) = 0; addShip(0, 20, 1, 4, 40, 0) = 1; tell(0, 0) = 1; tell(1, 0) = 3
            sail(0, 1) = ILLEGAL_STATE; sail(0, 2) = ILLEGAL_STATE; sail(0, 3) = ILLEGAL_STATE
            sail(1, 11) = ILLEGAL_STATE; sail(1, 1) = 29""");
        check.test("(whether it has fired or been repaired plays no part)", """
            addShip(0, 40, 1, 8, 40, 8) = 0; addShip(1, 48, 1, 7, 40, 9) = 1; tell(0, 0) = 1; tell(1, 1) = 3
            repair(0, 2) = 1; fire(0, 1, 1) = 27; ship(0, 10) = 6; ship(0, 8) = 3
            sail(0, 1111) = ILLEGAL_STATE; sail(0, 111) = 67; ship(0, 10) = 7""");
    }
}
