/** The sentences of "Broadsides", "Grapples" and "Repairs". */
final class FightBoundaries {
    private static final int[] STEP = {1, 9, 8, -1, -9, -8};
    private static final String MOVES = "tell(0, 0) = 1; tell(1, 0) = 3\n";

    private final Boundaries check;

    private FightBoundaries(Boundaries check) {
        this.check = check;
    }

    static void all(Boundaries check) {
        FightBoundaries tests = new FightBoundaries(check);
        tests.lines();
        tests.lineTargets();
        tests.otherCaptain();
        tests.hits();
        tests.losses();
        tests.nothingBelowZero();
        tests.noHits();
        tests.sinking();
        tests.reloading();
        tests.grapples();
        tests.fights();
        tests.captures();
        tests.captureLater();
        tests.timber();
        tests.repairOnce();
        tests.repairAmounts();
        tests.repairTimber();
    }

    // ---- broadsides

    private void lines() {
        check.section("Broadsides");
        String words = "The lines of side 0 of a ship, its left one, go in the directions heading + 4 and heading + 5 "
            + "(less 6 if above 5), those of side 1, its right one, in heading + 1 and heading + 2.";
        for (int heading = 0; heading < 6; heading++) {
            for (int direction = 0; direction < 6; direction++) {
                boolean left = direction == (heading + 4) % 6 || direction == (heading + 5) % 6;
                boolean right = direction == (heading + 1) % 6 || direction == (heading + 2) % 6;
                check.test(words, "addShip(0, 40, " + heading + ", 8, 8, 1) = 0",
                    "addShip(1, " + (40 + STEP[direction]) + ", 0, 8, 8, 1) = 1",
                    "targets(0, 0) = " + (left ? 2 : 0) + "; targets(0, 1) = " + (right ? 2 : 0),
                    MOVES, "fire(0, 0, 1) = " + (left ? "3" : "ILLEGAL_STATE"),
                    "fire(0, 1, 1) = " + (right ? "3" : "ILLEGAL_STATE"));
            }
        }
    }

    private void lineTargets() {
        String words = "The target on a line is the first ship that floats, of whichever captain, on its first "
        + "three hexes, "
            + "if there is no island before it";
        for (int direction = 0; direction < 6; direction++) {
            for (int distance = 1; distance <= 4; distance++) {
                check.test(words, "addShip(0, 40, " + (direction + 5) % 6 + ", 8, 8, 1) = 0",
                    "addShip(1, " + (40 + distance * STEP[direction]) + ", 0, 8, 8, 1) = 1", MOVES,
                    "targets(0, 1) = " + (distance <= 3 ? 2 : 0) + "; targets(0, 0) = 0",
                    "hits(0, 1, 1) = " + (distance <= 3 ? "" + (4 - distance) * 8 / 8 : "NONE"),
                    "fire(0, 1, 1) = " + (distance <= 3 ? "" + (4 - distance) : "ILLEGAL_STATE"));
            }
        }
        // A ship on 40 with its right line over 49, 58 and 67 to 76; 67 is its third hex.
        String three = "addShip(0, 40, 0, 8, 8, 1) = 0; addShip(1, 67, 0, 8, 8, 1) = 1\n";
        int[][] islands = {{49, 0}, {58, 0}, {76, 2}, {48, 2}, {50, 2}, {57, 2}, {59, 2}, {31, 2}};
        for (int[] row : islands) {
            check.test(words, three,
                "setIsland(" + row[0] + ", 1) = 1; targets(0, 1) = " + row[1] + "; threats(1) = " + row[1] / 2,
                MOVES, "fire(0, 1, 1) = " + (row[1] == 0 ? "ILLEGAL_STATE" : "1"));
        }
        check.test(words, "addShip(0, 40, 0, 8, 8, 1) = 0; addShip(1, 58, 0, 8, 8, 1) = 1",
            "# an island behind the target plays no part", "setIsland(67, 1) = 1; targets(0, 1) = 2", MOVES,
                "fire(0, 1, 1) = 2");
        check.test(words, three, """
            # the first ship alone is a target, of whichever captain
            addShip(1, 58, 0, 8, 8, 1) = 2; targets(0, 1) = 4; hits(0, 1, 1) = NONE; hits(0, 1, 2) = 2
            addShip(0, 49, 0, 8, 8, 1) = 3; targets(0, 1) = 0; hits(0, 1, 2) = NONE; targets(3, 1) = 4""",
            MOVES, "fire(0, 1, 2) = ILLEGAL_STATE; fire(0, 1, 1) = ILLEGAL_STATE; fire(0, 1, 3) = ILLEGAL_STATE");
        check.test(words, """
            # a sunk ship is none, so the next one is the target
            addShip(0, 40, 0, 8, 8, 9) = 0; addShip(1, 49, 0, 8, 8, 1) = 1; addShip(1, 58, 0, 8, 8, 1) = 2
            targets(0, 1) = 2; tell(0, 0) = 1; tell(1, 0) = 3; fire(0, 1, 1) = 27
            targets(0, 1) = 4; hits(0, 1, 2) = 18; hits(0, 1, 1) = NONE""");
        check.test(words, """
            # a line ends at the edge of the board and does not go on in the next row
            addShip(0, 8, 5, 8, 8, 9) = 0; addShip(1, 9, 0, 8, 8, 1) = 1; addShip(1, 17, 0, 8, 8, 1) = 2
            targets(0, 1) = 4; targets(0, 0) = 0; threats(1) = 0; threats(2) = 1""");
    }

    private void otherCaptain() {
        String words = "a ship can be fired at by a side if it is the target on one of the lines of this side and "
        + "belongs to "
            + "the other captain.";
        for (int captain = 0; captain < 2; captain++) {
            for (int other = 0; other < 2; other++) {
                check.test(words,
                    "addShip(" + captain + ", 40, 0, 8, 8, 1) = 0; addShip(" + other + ", 49, 0, 8, 8, 1) = 1",
                    "targets(0, 1) = " + (captain == other ? 0 : 2) + "; threats(1) = " + (captain == other ? 0 : 1),
                    "hits(0, 1, 1) = " + (captain == other ? "NONE" : "3"), MOVES,
                    "fire(0, 1, 1) = " + (captain == other ? "ILLEGAL_STATE" : "3"));
            }
        }
        check.test(words, """
            # a captured ship belongs to the other captain
            addShip(0, 40, 0, 8, 40, 1) = 0; addShip(1, 49, 0, 8, 1, 1) = 1; addShip(1, 31, 0, 8, 8, 1) = 2
            targets(0, 1) = 2; targets(1, 0) = 1; targets(0, 0) = 4
            tell(0, 0) = 1; tell(1, 0) = 3; grapple(0, 1) = 41; end() = 1
            targets(0, 1) = 0; targets(1, 0) = 0; targets(0, 0) = 4; threats(1) = 0""");
        check.test(words, """
            # both lines of a side
            addShip(0, 40, 0, 8, 8, 1) = 0; addShip(1, 49, 0, 8, 8, 1) = 1; addShip(1, 48, 0, 8, 8, 1) = 2
            targets(0, 1) = 6; targets(0, 0) = 0
            addShip(1, 31, 0, 8, 8, 1) = 3; addShip(1, 32, 0, 8, 8, 1) = 4
            addShip(1, 41, 0, 8, 8, 1) = 5; addShip(1, 39, 0, 8, 8, 1) = 6
            targets(0, 1) = 6; targets(0, 0) = 24""");
    }

    private void hits() {
        String words = "The hits are the guns times (4 less the number of hexes to the target, which is 1 for a "
        + "neighboring "
            + "hex), times the crew (8 if it is more), divided by 8.";
        // guns, crew, distance, hits
        int[][] rows = {{9, 40, 1, 27}, {9, 40, 2, 18}, {9, 40, 3, 9}, {9, 7, 1, 23}, {9, 8, 1, 27}, {9, 9, 1, 27},
            {1, 7, 3, 0}, {1, 8, 3, 1}, {1, 9, 3, 1}, {1, 2, 1, 0}, {1, 3, 1, 1}, {1, 5, 1, 1}, {1, 6, 1, 2},
            {1, 3, 2, 0}, {1, 4, 2, 1}, {0, 40, 1, 0}, {1, 1, 1, 0}, {9, 1, 1, 3}, {9, 1, 3, 1}, {8, 1, 3, 1}, {7, 1, 3,
                0},
            {2, 8, 1, 6}, {3, 5, 2, 3}};
        for (int[] row : rows) {
            check.test(words, "addShip(0, 40, 0, 8, " + row[1] + ", " + row[0] + ") = 0",
                "addShip(1, " + (40 + 9 * row[2]) + ", 0, 8, 8, 1) = 1", "hits(0, 1, 1) = " + row[3], MOVES,
                "fire(0, 1, 1) = " + row[3] + "; ship(1, 3) = " + Math.max(0, 20 - row[3]));
        }
    }

    private void losses() {
        String words = "The target loses as much of its hull as there are hits, of its crew a third of the hits, of "
        + "its sails a "
            + "quarter of the hits, of its guns a sixth of the hits";
        // guns, crew and distance of the ship that fires; hits; hull, crew, sails and guns of the target then
        int[][] rows = {{1, 8, 3, 1, 19, 40, 8, 9}, {2, 8, 3, 2, 18, 40, 8, 9}, {3, 8, 3, 3, 17, 39, 8, 9},
            {4, 8, 3, 4, 16, 39, 7, 9}, {5, 8, 3, 5, 15, 39, 7, 9}, {6, 8, 3, 6, 14, 38, 7, 8}, {7, 8, 3, 7, 13, 38, 7,
                8},
            {8, 8, 3, 8, 12, 38, 6, 8}, {9, 8, 3, 9, 11, 37, 6, 8}, {6, 5, 1, 11, 9, 37, 6, 8}, {6, 8, 2, 12, 8, 36, 5,
                7},
            {5, 7, 1, 13, 7, 36, 5, 7}, {6, 8, 1, 18, 2, 34, 4, 6}};
        for (int[] row : rows) {
            check.test(words, "addShip(0, 40, 0, 8, " + row[1] + ", " + row[0] + ") = 0",
                "addShip(1, " + (40 + 9 * row[2]) + ", 3, 8, 40, 9) = 1", MOVES, "fire(0, 1, 1) = " + row[3],
                "ship(1, 3) = " + row[4] + "; ship(1, 5) = " + row[5] + "; ship(1, 4) = " + row[6] + "; ship(1, 6) = " + row[7],
                "# the ship that fires loses nothing",
                "ship(0, 3) = 20; ship(0, 4) = 8; ship(0, 5) = " + row[1] + "; ship(0, 6) = " + row[0]);
        }
    }

    private void nothingBelowZero() {
        // By 27 hits: 9 of the crew, 6 of the sails, 4 of the guns.
        int[][] rows = {{8, 5, 3, 0, 0, 0}, {9, 6, 4, 0, 0, 0}, {10, 7, 5, 1, 1, 1}, {1, 1, 0, 0, 0, 0}};
        for (int[] row : rows) {
            check.test("but nothing becomes less than 0.", "addShip(0, 40, 0, 8, 8, 9) = 0",
                "addShip(1, 49, 0, " + row[1] + ", " + row[0] + ", " + row[2] + ") = 1", MOVES, "fire(0, 1, 1) = 27",
                "ship(1, 3) = 0; ship(1, 5) = " + row[3] + "; ship(1, 4) = " + row[4] + "; ship(1, 6) = " + row[5]);
        }
        check.test("but nothing becomes less than 0.", """
            # a ship that floats with no crew, no sails and no guns loses hull alone
            addShip(0, 40, 0, 8, 8, 6) = 0; addShip(1, 49, 0, 4, 6, 3) = 1; addShip(0, 58, 3, 8, 8, 1) = 2
            tell(0, 0) = 1; tell(1, 0) = 3
            fire(0, 1, 1) = 18; ship(1, 3) = 2; ship(1, 5) = 0; ship(1, 4) = 0; ship(1, 6) = 0; ship(1, 1) = 49
            fire(2, 1, 1) = 3; ship(1, 3) = 0; ship(1, 5) = 0; ship(1, 4) = 0; ship(1, 6) = 0; ship(1, 1) = NONE""");
    }

    private void noHits() {
        check.test("(Hits can be 0.", """
            addShip(0, 40, 0, 8, 8, 0) = 0; addShip(1, 49, 0, 8, 8, 0) = 1
            hits(0, 1, 1) = 0; tell(0, 0) = 1; tell(1, 0) = 3
            fire(0, 1, 1) = 0; count(10) = 5; ship(0, 10) = 2; ship(0, 9) = 2; fire(0, 1, 1) = ILLEGAL_STATE
            ship(1, 3) = 20; ship(1, 5) = 8""");
        check.test("(Hits can be 0.", """
            # a crew of 0 can fire
            addShip(0, 40, 0, 8, 8, 6) = 0; addShip(1, 49, 0, 8, 6, 9) = 1; tell(0, 0) = 1; tell(1, 0) = 3
            fire(0, 1, 1) = 18; ship(1, 5) = 0; ship(1, 6) = 6; hits(1, 0, 0) = 0; fire(1, 0, 0) = 0
            ship(0, 3) = 20""");
        check.test("Whether either ship is grappled plays no part.)", """
            addShip(0, 40, 0, 8, 8, 1) = 0; addShip(1, 49, 0, 8, 8, 1) = 1; addShip(1, 31, 0, 8, 8, 1) = 2
            tell(0, 0) = 1; tell(1, 0) = 3
            grapple(0, 1) = 16
            # each other, another ship, and one that is grappled by another
            fire(0, 1, 1) = 3; fire(1, 0, 0) = 2; fire(2, 1, 0) = 3; fire(0, 0, 2) = 2
            ship(0, 7) = 1; ship(1, 7) = 0""");
    }

    private void sinking() {
        String words = "If its hull is 0 then, it is sunk, and whoever is grappled with it is so no more; its heading, sails, "
            + "crew and guns stay as they are.";
        // Ship 1 is grappled with ship 3 and takes 18 hits from ship 0, then some from ship 2.
        String eighteen = """
            addShip(0, 40, 0, 8, 8, 9) = 0; addShip(1, 58, 2, 8, 40, 9) = 1
            addShip(0, 55, 5, 8, 8, %d) = 2; addShip(0, 67, 4, 8, 40, 9) = 3
            tell(0, 0) = 1; tell(1, 0) = 3; grapple(3, 1) = 80
            fire(0, 1, 1) = 18; ship(1, 3) = 2; ship(1, 7) = 3; ship(3, 7) = 1; ship(3, 8) = 0
            """;
        check.test(words, eighteen.formatted(1), """
            # a hull of 1 floats
            fire(2, 1, 1) = 1; ship(1, 3) = 1; ship(1, 1) = 58; on(58) = 1; count(6) = 15
            ship(1, 7) = 3; ship(3, 7) = 1; sail(3, 2) = ILLEGAL_STATE; captain(1, 4) = 1""");
        check.test(words, eighteen.formatted(2), """
            # a hull of just 0
            fire(2, 1, 1) = 2; ship(1, 3) = 0; ship(1, 1) = NONE; on(58) = NONE; count(6) = 13
            ship(1, 7) = NONE; ship(3, 7) = NONE; ship(3, 8) = 1; sail(3, 2) = 67; captain(1, 4) = 0
            ship(1, 2) = 2; ship(1, 4) = 4; ship(1, 5) = 34; ship(1, 6) = 6; ship(1, 0) = 1""");
        check.test(words, eighteen.formatted(3), """
            # more hits than hull
            fire(2, 1, 1) = 3; ship(1, 3) = 0; ship(1, 1) = NONE; on(58) = NONE; count(6) = 13
            ship(1, 7) = NONE; ship(3, 7) = NONE; end() = 1; ship(3, 5) = 40
            ship(1, 2) = 2; ship(1, 4) = 4; ship(1, 5) = 33; ship(1, 6) = 6; ship(1, 0) = 1; count(8) = 0""");
        check.test(words, """
            # 20 hits at once, the crew of 6 being 20 of 20.25
            addShip(0, 40, 0, 8, 6, 9) = 0; addShip(1, 49, 5, 8, 40, 9) = 1; tell(0, 0) = 1; tell(1, 0) = 3
            fire(0, 1, 1) = 20; count(6) = 1; ship(1, 2) = 5; ship(1, 4) = 3; ship(1, 5) = 34; ship(1, 6) = 6""");
    }

    private void reloading() {
        String words = "A side that has fired cannot fire in this turn and in the next one.";
        check.test(words, """
            addShip(0, 40, 0, 8, 8, 1) = 0; addShip(1, 67, 0, 8, 8, 1) = 1; addShip(1, 13, 0, 8, 8, 1) = 2
            tell(0, 0) = 1; tell(1, 0) = 3; ship(0, 9) = 0
            fire(0, 1, 1) = 1; ship(0, 9) = 2; fire(0, 1, 1) = ILLEGAL_STATE
            end() = 1; ship(0, 9) = 2; tell(0, 1) = 1; tell(1, 1) = 3
            ship(0, 9) = 2; fire(0, 1, 1) = ILLEGAL_STATE
            # the other side fires a turn later
            fire(0, 0, 2) = 1; ship(0, 9) = 3
            end() = 2; ship(0, 9) = 1; tell(0, 2) = 1; tell(1, 2) = 3
            ship(0, 9) = 1; fire(0, 0, 2) = ILLEGAL_STATE; fire(0, 1, 1) = 1; ship(0, 9) = 3
            end() = 3; ship(0, 9) = 2; tell(0, 3) = 1; tell(1, 3) = 3
            fire(0, 1, 1) = ILLEGAL_STATE; fire(0, 0, 2) = 1""");
        check.test(words, """
            # both sides in one turn, and two turns later again
            addShip(0, 40, 0, 8, 8, 1) = 0; addShip(1, 67, 0, 8, 8, 1) = 1; addShip(1, 13, 0, 8, 8, 1) = 2
            tell(0, 0) = 1; tell(1, 0) = 3; fire(0, 0, 2) = 1; fire(0, 1, 1) = 1; ship(0, 9) = 3; end() = 1
            ship(0, 9) = 3
            tell(0, 1) = 1; tell(1, 1) = 3; end() = 2; ship(0, 9) = 0
            fire(0, 0, 2) = ILLEGAL_STATE; tell(0, 2) = 1; tell(1, 2) = 3; fire(0, 0, 2) = 1; fire(0, 1, 1) = 1""");
        check.test(words, """
            # a captured ship has to wait for the side that has fired too
            addShip(0, 40, 0, 8, 40, 1) = 0; addShip(1, 49, 0, 8, 1, 1) = 1; addShip(1, 58, 0, 8, 8, 1) = 2
            addShip(1, 33, 0, 8, 8, 1) = 3; tell(0, 0) = 1; tell(1, 0) = 3
            fire(1, 0, 0) = 0; grapple(0, 1) = 41; end() = 1; ship(1, 0) = 0; ship(1, 9) = 1; ship(1, 10) = 0
            tell(0, 1) = 1; tell(1, 1) = 3; hits(1, 0, 3) = 2; fire(1, 0, 3) = ILLEGAL_STATE; fire(1, 1, 2) = 3
            ship(1, 9) = 3
            end() = 2; ship(1, 9) = 2; tell(0, 2) = 1; tell(1, 2) = 3; fire(1, 0, 3) = 2""");
    }

    // ---- grapples

    private void grapples() {
        check.section("Grapples");
        String words = "Two ships of different captains on neighboring hexes can be grappled, each with one other "
        + "ship at most.";
        check.test(words, """
            addShip(0, 40, 0, 8, 8, 1) = 0; addShip(1, 41, 0, 8, 8, 1) = 1; addShip(1, 39, 0, 8, 8, 1) = 2
            addShip(0, 42, 0, 8, 8, 1) = 3; addShip(1, 38, 0, 8, 8, 1) = 4; tell(0, 0) = 1; tell(1, 0) = 3
            # one captain, and two hexes away
            grapple(0, 3) = ILLEGAL_STATE; grapple(1, 2) = ILLEGAL_STATE; grapple(2, 4) = ILLEGAL_STATE
            grapple(0, 4) = ILLEGAL_STATE; grapple(2, 1) = ILLEGAL_STATE
            grapple(0, 1) = 16; ship(0, 7) = 1; ship(1, 7) = 0; ship(2, 7) = NONE
            # each with one other at most
            grapple(0, 2) = ILLEGAL_STATE; grapple(2, 0) = ILLEGAL_STATE; grapple(3, 1) = ILLEGAL_STATE
            grapple(1, 3) = ILLEGAL_STATE; grapple(0, 1) = ILLEGAL_STATE; grapple(1, 0) = ILLEGAL_STATE
            cut(0) = 1; grapple(0, 2) = 16; grapple(3, 1) = 16; ship(0, 7) = 2; ship(3, 7) = 1""");
    }

    /** Two ships are grappled and the turn is ended; the crews then, and 1 if they are grappled still. */
    private void fight(String words, int crew, int other, int then, int otherThen, int grappled) {
        boolean firstCan = 2 * crew >= other;
        check.test(words, "addShip(0, 40, 0, 8, " + crew + ", 1) = 0; addShip(1, 41, 0, 8, " + other + ", 1) = 1",
            MOVES,
            (firstCan ? "grapple(0, 1) = " : "grapple(1, 0) = ") + (crew + other), "end() = 1",
            "ship(0, 5) = " + then + "; ship(1, 5) = " + otherThen,
            "ship(0, 7) = " + (grappled == 1 ? "1" : "NONE") + "; ship(1, 7) = " + (grappled == 1 ? "0" : "NONE"));
    }

    private void fights() {
        String quarter = "each crew becomes less by a quarter of the sum of the other crew and 3, both at once, but "
        + "not less than 0.";
        // The loss of the first crew is 1 by a crew of 1 to 4, 2 by 5 to 8, 3 by 9 to 12.
        int[][] rows = {{8, 3, 7, 1}, {8, 4, 7, 2}, {8, 5, 6, 3}, {9, 5, 7, 2}, {12, 8, 10, 5}, {12, 9, 9, 6},
            {13, 9, 10, 5},
            {20, 20, 15, 15}, {20, 21, 14, 16}, {40, 40, 30, 30}, {39, 40, 29, 30}, {37, 40, 27, 30}, {36, 40, 26, 31}};
        for (int[] row : rows) {
            fight(quarter, row[0], row[1], row[2], row[3], 1);
        }
        // One after the other, the second one would lose less.
        fight("both at once", 5, 5, 3, 3, 1);
        fight("both at once", 6, 10, 3, 8, 1);
        // A crew of 3 keeps one man against 8, of 2 none, and of 1 none, though 2 are to go.
        fight("but not less than 0.", 3, 8, 1, 7, 1);
        fight("but not less than 0.", 2, 8, 3, 4, 0);
        fight("but not less than 0.", 1, 8, 3, 4, 0);
        fight("but not less than 0.", 8, 1, 4, 3, 0);
        String order = "When a turn is ended, the crews of each two that are grappled fight, by ascending numbers "
        + "of the lower ship "
            + "of both";
        check.test(order, """
            addShip(0, 40, 0, 8, 20, 1) = 0; addShip(1, 60, 0, 8, 10, 1) = 1; addShip(0, 61, 0, 8, 10, 1) = 2
            addShip(1, 41, 0, 8, 20, 1) = 3; addShip(0, 20, 0, 8, 20, 1) = 4; addShip(1, 21, 0, 8, 20, 1) = 5
            tell(0, 0) = 1; tell(1, 0) = 3; grapple(3, 0) = 40; grapple(2, 1) = 20
            # neighbors that are not grappled do not fight
            ship(0, 5) = 20; end() = 1
            ship(0, 5) = 15; ship(3, 5) = 15; ship(1, 5) = 7; ship(2, 5) = 7; ship(4, 5) = 20; ship(5, 5) = 20
            # and they fight at the end of every turn
            ship(0, 7) = 3; tell(0, 1) = 1; tell(1, 1) = 3; ship(0, 5) = 15; end() = 2
            ship(0, 5) = 11; ship(3, 5) = 11; ship(1, 5) = 5; ship(2, 5) = 5; count(8) = 0""");
        check.test(order, """
            # who has been cut loose does not fight
            addShip(0, 40, 0, 8, 20, 1) = 0; addShip(1, 41, 0, 8, 20, 1) = 1
            tell(0, 0) = 1; tell(1, 0) = 3; grapple(0, 1) = 40; cut(1) = 0; end() = 1; ship(0, 5) = 20
            ship(1, 5) = 20""");
    }

    private void captures() {
        String half = "If just one crew is 0 then, its ship is captured: it belongs to the other captain, and half "
        + "of the other "
            + "crew, as it is by then, leaves its ship and goes over.";
        // The crews, and what they are then: of 40 - 1 and 39 - 1 and of 2 - 1 and 3 - 1, half goes over.
        int[][] rows = {{40, 1, 20, 19}, {39, 1, 19, 19}, {38, 1, 19, 18}, {2, 1, 1, 0}, {3, 1, 1, 1}, {4, 1, 2, 1},
            {5, 2, 2, 2}};
        for (int[] row : rows) {
            check.test(half, "addShip(0, 40, 0, 8, " + row[0] + ", 1) = 0; addShip(1, 41, 2, 7, " + row[1] + ", 5) = 1",
                MOVES,
                "grapple(0, 1) = " + (row[0] + row[1]) + "; captain(0, 3) = 1; count(8) = 0; end() = 1",
                "ship(0, 5) = " + row[2] + "; ship(1, 5) = " + row[3] + "; ship(0, 0) = 0; ship(1, 0) = 0",
                "captain(0, 3) = 3; captain(1, 3) = 0; captain(0, 4) = 40; count(8) = 1; count(6) = 3",
                "# all else of the ship is as it was", """
                ship(1, 1) = 41; ship(1, 2) = 2; ship(1, 3) = 20; ship(1, 4) = 7; ship(1, 6) = 5; ship(1, 7) = NONE
                ship(0, 7) = NONE""");
        }
        check.test(half, """
            # the ship with the lower number is captured by that of captain 1
            addShip(0, 40, 0, 8, 1, 1) = 0; addShip(1, 41, 2, 7, 2, 5) = 1; tell(0, 0) = 1; tell(1, 0) = 3
            grapple(1, 0) = 3; end() = 1; ship(0, 0) = 1; ship(1, 0) = 1; ship(0, 5) = 0; ship(1, 5) = 1
            count(8) = 1""");
        check.test("If just one crew is 0 then", """
            # a crew of 1 is left, so nobody is captured
            addShip(0, 40, 0, 8, 40, 1) = 0; addShip(1, 41, 0, 8, 11, 1) = 1; tell(0, 0) = 1; tell(1, 0) = 3
            grapple(0, 1) = 51; end() = 1; ship(1, 5) = 1; ship(1, 0) = 1; ship(0, 5) = 37; count(8) = 0""");
        check.test("If just one crew is 0 then", """
            # both crews are 0, so nobody is captured
            addShip(0, 40, 0, 8, 1, 1) = 0; addShip(1, 41, 0, 8, 1, 1) = 1; tell(0, 0) = 1; tell(1, 0) = 3
            grapple(0, 1) = 2; end() = 1; ship(0, 5) = 0; ship(1, 5) = 0; ship(0, 0) = 0; ship(1, 0) = 1; count(8) = 0
            ship(0, 7) = NONE; ship(1, 7) = NONE; count(6) = 3""");
        String free = "If at least one crew was 0, both are grappled no more.";
        fight(free, 1, 1, 0, 0, 0);
        fight(free, 40, 10, 19, 18, 0);
        fight(free, 40, 11, 37, 1, 1);
        fight(free, 10, 40, 18, 19, 0);
        fight(free, 11, 40, 1, 37, 1);
        check.test(free, """
            # a crew of 0 before the fight
            addShip(0, 40, 0, 8, 8, 6) = 0; addShip(1, 49, 0, 8, 6, 9) = 1; tell(0, 0) = 1; tell(1, 0) = 3
            fire(0, 1, 1) = 18; ship(1, 5) = 0; grapple(0, 1) = 8; end() = 1
            # 8 less a quarter of 3 are 8
            ship(0, 5) = 4; ship(1, 5) = 4; ship(1, 0) = 0; ship(0, 7) = NONE; ship(1, 7) = NONE; count(8) = 1""");
    }

    private void captureLater() {
        check.test("its ship is captured", """
            # the new captain sails, repairs and fires with it, and the old one can capture it back
            addShip(0, 40, 0, 8, 20, 1) = 0; addShip(1, 41, 0, 7, 1, 5) = 1; addShip(1, 42, 0, 8, 40, 9) = 2
            tell(0, 1) = 1; tell(1, 0) = 3; grapple(0, 1) = 21; end() = 1
            ship(1, 0) = 0; ship(1, 5) = 9; ship(0, 5) = 10; captain(0, 2) = 10
            tell(0, 0) = 1; tell(1, 1) = 3; repair(1, 1) = 1; captain(0, 2) = 8; captain(1, 2) = 10
            grapple(0, 1) = ILLEGAL_STATE; grapple(2, 1) = 49; end() = 2
            ship(1, 0) = 1; ship(1, 5) = 18; ship(2, 5) = 19; count(8) = 2""");
    }

    // ---- repairs

    private void timber() {
        check.section("Repairs");
        String words = "Each captain has timber, 0 to 99 (at first 10).";
        check.test(words, "captain(0, 2) = 10; captain(1, 2) = 10");
        for (int captain = 0; captain < 2; captain++) {
            check.range(words, "", "setTimber(" + captain + ", #)", 0, 99,
                "setTimber(" + captain + ", #) = 10; captain(" + captain + ", 2) = #; captain(" + (1 - captain) + ", 2) = 10");
        }
    }

    /** Ship 1 of captain 1, with a crew so great, has taken as many hits as ship 0 has guns. */
    private static String hurt(int hits, int crew) {
        return "addShip(0, 40, 0, 8, 8, " + hits + ") = 0; addShip(1, 67, 0, 7, " + crew + ", 8) = 1\n" + MOVES
            + "fire(0, 1, 1) = " + hits + "\n";
    }

    private void repairOnce() {
        String able = "A ship that floats, is not grappled, and has neither sailed nor fired in this turn can be "
        + "repaired once in it";
        check.test(able, hurt(2, 40), """
            repair(1, 1) = 1; ship(1, 10) = 4
            repair(1, 0) = ILLEGAL_STATE; repair(1, 1) = ILLEGAL_STATE; repair(1, 2) = ILLEGAL_STATE
            # it can sail and fire then, and be repaired in the next turn
            fire(1, 0, 0) = 8; sail(1, 2) = 67; ship(1, 10) = 7; end() = 1
            repair(1, 0) = ILLEGAL_STATE; tell(0, 1) = 1; tell(1, 1) = 3; repair(1, 0) = 2""");
        check.test(able, "addShip(0, 40, 1, 8, 8, 2) = 0; addShip(1, 67, 5, 7, 8, 8) = 1", """
            # who has sailed
            tell(0, 0) = 1; tell(1, 0) = 3; sail(1, 2) = 67
            repair(1, 1) = ILLEGAL_STATE; repair(1, 2) = ILLEGAL_STATE
            end() = 1; tell(0, 1) = 1; tell(1, 1) = 3; repair(1, 2) = 1""");
        check.test(able, "addShip(0, 40, 0, 8, 8, 2) = 0; addShip(1, 67, 0, 7, 8, 8) = 1", """
            # who has fired; who was fired at can be repaired
            setTimber(0, 99) = 10; tell(0, 0) = 1; tell(1, 0) = 3; fire(0, 1, 1) = 2
            repair(0, 2) = ILLEGAL_STATE; repair(1, 0) = 2
            # in the next turn the side cannot fire yet, but the ship can be repaired
            end() = 1; tell(0, 1) = 1; tell(1, 1) = 3; ship(0, 9) = 2; repair(0, 2) = 1""");
        check.test(able, "addShip(0, 40, 0, 8, 8, 0) = 0; addShip(1, 67, 0, 7, 8, 8) = 1", MOVES, """
            # who has fired with 0 hits
            fire(0, 1, 1) = 0; repair(0, 2) = ILLEGAL_STATE; undo() = 4; repair(0, 2) = 1""");
        check.test(able, "addShip(0, 40, 0, 7, 8, 8) = 0; addShip(1, 49, 0, 7, 8, 8) = 1", MOVES, """
            # who is grappled, and not any more
            grapple(0, 1) = 16; repair(0, 1) = ILLEGAL_STATE; repair(1, 2) = ILLEGAL_STATE
            cut(0) = 1; repair(0, 1) = 1; repair(1, 2) = 1""");
        check.test(able, "addShip(0, 40, 0, 8, 8, 9) = 0; addShip(1, 49, 0, 7, 40, 8) = 1", MOVES, """
            # who is sunk
            repair(1, 1) = 1; undo() = 4; fire(0, 1, 1) = 27; ship(1, 5) = 31
            repair(1, 0) = ILLEGAL_STATE; repair(1, 1) = ILLEGAL_STATE; repair(1, 2) = ILLEGAL_STATE""");
    }

    private void repairAmounts() {
        String hull = "its hull by as many as a quarter of its crew, but not above 20, each for 1 timber";
        // hits, crew of the ship before them, by how many it is repaired (0: refused)
        int[][] rows = {{2, 3, 0}, {2, 4, 1}, {2, 7, 1}, {2, 8, 2}, {2, 12, 2}, {1, 8, 1}, {0, 8, 0}, {0, 40, 0},
            {5, 16, 3}, {5, 17, 4},
            {5, 20, 4}, {5, 21, 5}, {5, 40, 5}, {9, 40, 9}, {9, 38, 8}, {9, 39, 9}};
        for (int[] row : rows) {
            String by = row[2] == 0 ? "ILLEGAL_STATE" : "" + row[2];
            check.test(hull, hurt(row[0], row[1]), "ship(1, 5) = " + (row[1] - row[0] / 3), "repair(1, 0) = " + by,
                "ship(1, 3) = " + (20 - row[0] + row[2]) + "; captain(1, 2) = " + (10 - row[2]) + "; captain(0, 2) = 10");
        }
        String sails = "or its sails by 1, but not above 8, for 2 timber";
        String guns = "or its guns by 1, but not above 9, for 3 timber.";
        int[][] some = {{1, 2}, {6, 7}, {7, 8}};
        for (int[] one : some) {
            check.test(sails, "addShip(0, 40, 0, " + one[0] + ", 8, 9) = 0", MOVES,
                "repair(0, 1) = 1; ship(0, 4) = " + one[1] + "; captain(0, 2) = 8; captain(1, 2) = 10; ship(0, 6) = 9");
        }
        check.test(sails, "addShip(0, 40, 0, 8, 8, 8) = 0", MOVES, "repair(0, 1) = ILLEGAL_STATE; repair(0, 2) = 1");
        check.test(sails, """
            # sails of 0
            addShip(0, 40, 0, 8, 8, 6) = 0; addShip(1, 49, 0, 4, 8, 9) = 1; tell(0, 0) = 1; tell(1, 0) = 3
            fire(0, 1, 1) = 18; ship(1, 4) = 0; repair(1, 1) = 1; ship(1, 4) = 1; captain(1, 2) = 8""");
        int[][] many = {{0, 1}, {7, 8}, {8, 9}};
        for (int[] one : many) {
            check.test(guns, "addShip(0, 40, 0, 8, 8, " + one[0] + ") = 0", MOVES,
                "repair(0, 2) = 1; ship(0, 6) = " + one[1] + "; captain(0, 2) = 7; captain(1, 2) = 10; ship(0, 4) = 8");
        }
        check.test(guns, "addShip(0, 40, 0, 7, 8, 9) = 0", MOVES, "repair(0, 2) = ILLEGAL_STATE; repair(0, 1) = 1");
    }

    private void repairTimber() {
        String words = "If the timber of its captain does not do for all of the hull, it does for as many as there "
        + "is timber.";
        // timber of captain 1, by how many of 5 (0: refused)
        int[][] rows = {{0, 0}, {1, 1}, {4, 4}, {5, 5}, {6, 5}, {99, 5}};
        for (int[] row : rows) {
            check.test(words, hurt(5, 40), "setTimber(0, 3) = 10; setTimber(1, " + row[0] + ") = 10",
                "repair(1, 0) = " + (row[1] == 0 ? "ILLEGAL_STATE" : "" + row[1]),
                "ship(1, 3) = " + (15 + row[1]) + "; captain(1, 2) = " + (row[0] - row[1]) + "; captain(0, 2) = 3");
        }
        // timber, whether the sails and the guns can be repaired
        int[][] others = {{0, 0, 0}, {1, 0, 0}, {2, 1, 0}, {3, 1, 1}, {4, 1, 1}};
        for (int[] row : others) {
            String timber = "addShip(1, 40, 0, 7, 8, 8) = 0; setTimber(1, " + row[0] + ") = 10\n" + MOVES;
            check.test("for 2 timber", timber, "repair(0, 1) = " + (row[1] == 1 ? "1" : "ILLEGAL_STATE"),
                "captain(1, 2) = " + (row[0] - 2 * row[1]) + "; ship(0, 4) = " + (7 + row[1]));
            check.test("for 3 timber", timber, "repair(0, 2) = " + (row[2] == 1 ? "1" : "ILLEGAL_STATE"),
                "captain(1, 2) = " + (row[0] - 3 * row[2]) + "; ship(0, 6) = " + (8 + row[2]));
        }
    }
}
