import java.lang.reflect.Field;
import java.lang.reflect.Method;
import java.lang.reflect.Modifier;
import java.util.Set;
import java.util.TreeSet;

/** The sentences of "The public face", "Text", "Snapshots", "Undo" and "Errors". */
final class RecordBoundaries {
    private static final String LETTERS = "tsfgxre";

    /** A game in the part of the moves in which nearly everything has been used, with a text and both slots. */
    static final String RICH = """
        addShip(0, 40, 0, 8, 40, 3) = 0; addShip(1, 49, 0, 7, 20, 8) = 1; addShip(1, 31, 3, 8, 40, 9) = 2
        setIsland(50, 1) = 1; setTimber(1, 33) = 10; take(0) = 0
        tell(0, 5) = 1; tell(1, 0) = 3; fire(0, 1, 1) = 9; grapple(2, 0) = 80; repair(1, 1) = 1; take(1) = 0
        write t0,0;q
        """;

    private final Boundaries check;

    private RecordBoundaries(Boundaries check) {
        this.check = check;
    }

    static void all(Boundaries check, Document document) {
        RecordBoundaries tests = new RecordBoundaries(check);
        tests.face(document);
        tests.textLength();
        tests.textOfOrders();
        tests.letters();
        tests.numbersOfOrders();
        tests.numbers();
        tests.faults();
        tests.snapshots();
        tests.restoring();
        tests.history();
        tests.recording();
        tests.undoing();
        tests.errorsChangeNothing();
        tests.firstError();
        tests.none();
        tests.constants();
        tests.whatCouldBe();
    }

    private void face(Document document) {
        Set<String> due = new TreeSet<>();
        for (String line : document.faceLines()) {
            if (line.startsWith("public") && !line.contains(" class ")) {
                due.add(line);
            }
        }
        Set<String> found = new TreeSet<>();
        found.add("public WindCardShips();");
        for (Method method : WindCardShips.class.getMethods()) {
            if (method.getDeclaringClass() == WindCardShips.class) {
                found.add("public " + method.getReturnType() + " " + method.getName() + types(method));
            }
        }
        for (Field field : WindCardShips.class.getFields()) {
            String value = Modifier.isFinal(field.getModifiers()) ? " = " + Call.number(field.getName()) : "";
            found.add("public static final " + field.getType() + " " + field.getName() + value + ";");
        }
        Set<String> dueByTypes = new TreeSet<>();
        for (String line : due) {
            dueByTypes.add(line.replaceAll("int \\w+([,)])", "int$1"));
        }
        check.section("The public face");
        check.require(found.equals(dueByTypes), "the face is " + found + ", due is " + dueByTypes);
    }

    private static String types(Method method) {
        StringBuilder types = new StringBuilder();
        for (Class<?> type : method.getParameterTypes()) {
            types.append(types.length() == 0 ? "" : ", ").append(type);
        }
        return "(" + types + ");";
    }

    // ---- the text

    private void textLength() {
        check.section("Text");
        String words = "There is a text of at most 100 characters, empty at first.";
        check.test(words, "count(11) = 0; clearText() = 0; count(11) = 0");
        check.test(words, "write " + "e".repeat(99), "count(11) = 99; append(101) = 100; count(11) = 100",
            "append(101) = CAPACITY_EXCEEDED; count(11) = 100; clearText() = 100; append(101) = 1");
    }

    /** What a text answers to carryOut on a new object: its fault, or how many orders are carried out. */
    private void text(String words, String signs, int fault, int orders) {
        StringBuilder rows = new StringBuilder();
        for (int i = 0; i < signs.length(); i++) {
            rows.append("append(" + (int) signs.charAt(i) + ") = " + (i + 1) + "\n");
        }
        if (fault >= 0) {
            check.test(words, rows.toString(), "carryOut() = " + (-1000 - fault),
                "count(11) = " + signs.length() + "; count(10) = 0");
        } else {
            check.test(words, rows.toString(), "carryOut() = " + orders, "count(11) = 0; count(10) = 1");
        }
    }

    private void fault(String words, String signs, int fault) {
        text(words, signs, fault, 0);
    }

    private void fine(String words, String signs, int orders) {
        text(words, signs, -1, orders);
    }

    private void textOfOrders() {
        String words = "A text of orders is one or more orders with \";\" between two.";
        fault(words, "", 0);
        fine(words, "e", 0);
        fine(words, "t0,0", 1);
        fine(words, "t0,0;t1,0", 2);
        fine(words, "t0,0;t1,0;e", 3);
        fault(words, ";", 0);
        fault(words, ";e", 0);
        fault(words, "e;", 2);
        fault(words, "e;;e", 2);
        fault(words, "ee", 1);
        fault(words, "e,e", 1);
        fault(words, "e:e", 1);
        fault(words, "e<e", 1);
        fault(words, "t0,0t1,0", 4);
        fault(words, "t0,0 ;t1,0", 4);
        fault(words, "t0,0; t1,0", 5);
        StringBuilder fifty = new StringBuilder("t0,0;t1,0");
        for (int i = 0; i < 45; i++) {
            fifty.append(";e");
        }
        fine(words, fifty.toString(), 3);
    }

    private void letters() {
        String words = "An order is a letter and its numbers";
        for (char sign = 1; sign <= 255; sign++) {
            boolean isLetter = LETTERS.indexOf(sign) >= 0;
            if (sign != 'e') {
                fault(words, "" + sign, isLetter ? 1 : 0);
                fault(words, "e;" + sign, isLetter ? 3 : 2);
            }
        }
    }

    private void numbersOfOrders() {
        String words = "\"t\" captain, card (tell); \"s\" ship, path (sail); \"f\" ship, side, target (fire); \"g\" ship, other "
            + "(grapple); \"x\" ship (cut); \"r\" ship, what (repair); \"e\" without a number (end).";
        int[] due = {2, 2, 3, 2, 1, 2, 0};
        for (int i = 0; i < due.length; i++) {
            StringBuilder order = new StringBuilder(LETTERS.substring(i, i + 1));
            for (int numbers = 1; numbers <= due[i]; numbers++) {
                fault(words, order.toString(), order.length());
                order.append(numbers == 1 ? "7" : ",7");
                if (numbers < due[i]) {
                    fault(words, order + ";e", order.length());
                }
            }
            fine(words, order.toString(), 0);
            fault(words, order + (due[i] == 0 ? "7" : ",7"), order.length());
            fault(words, order + ",", order.length());
        }
        String between = "with \",\" between two";
        fault(between, "t,0", 1);
        fault(between, "t0,,0", 3);
        fault(between, "t0;0", 2);
        fault(between, "t0 0", 2);
        fault(between, "t0-0", 2);
        fault(between, "t0+0", 2);
        fault(between, "t0,0,", 4);
        fine(between, "t0,0", 1);
    }

    private void numbers() {
        String words = "A number is one to six digits, the first of several not 0.";
        fault(words, "x", 1);
        fault(words, "x;", 1);
        fine(words, "x0", 0);
        fine(words, "x9", 0);
        fine(words, "x10", 0);
        fine(words, "x12345", 0);
        fine(words, "x123456", 0);
        fine(words, "x999999", 0);
        fine(words, "x100000", 0);
        fault(words, "x1234567", 7);
        fault(words, "x1000000", 7);
        fault(words, "x12345678", 7);
        fault(words, "x00", 2);
        fault(words, "x01", 2);
        fault(words, "x09", 2);
        fault(words, "x0000000", 2);
        // The characters beside "0" and "9", ahead of a digit, behind one, and after a first 0.
        fault(words, "x/", 1);
        fault(words, "x:", 1);
        fault(words, "x1/", 2);
        fault(words, "x1:", 2);
        fault(words, "x0/", 2);
        fault(words, "x0:", 2);
        fault(words, "x-1", 1);
        // Each number of an order.
        fault(words, "f1234567,0,1", 7);
        fault(words, "f0,1234567,1", 9);
        fault(words, "f0,1,1234567", 11);
        fault(words, "f00,1,1", 2);
        fault(words, "f0,01,1", 4);
        fault(words, "f0,1,01", 6);
        fine(words, "f123456,123456,123456", 0);
    }

    private void faults() {
        String words = "The fault of the text is the index, from 0, of the first character that is not allowed at "
        + "its place, or the "
            + "length of the text if it ends too early (as the empty text does).";
        fault(words, "", 0);
        fault(words, "q", 0);
        fault(words, "eq", 1);
        fault(words, "t0,0;q;q", 5);
        fault(words, "t", 1);
        fault(words, "t0", 2);
        fault(words, "t0,", 3);
        fault(words, "t0,0;", 5);
        fault(words, "t0,0;t", 6);
        // The last place of a full text, and behind it.
        String full = "e;".repeat(49);
        fault(words, full + "eq", 99);
        fault(words, full + "e;", 100);
        fault(words, full + "qe", 98);
        fault(words, full + "t0", 100);
        fine(words, full + "x0", 0);
    }

    // ---- snapshots

    private void snapshots() {
        check.section("Snapshots");
        String words = "There are two slots for snapshots, empty at first.";
        check.test(words, """
            count(9) = 0; restore(0) = ILLEGAL_STATE; restore(1) = ILLEGAL_STATE
            take(-1) = INVALID_ARGUMENT; take(2) = INVALID_ARGUMENT
            restore(-1) = INVALID_ARGUMENT; restore(2) = INVALID_ARGUMENT""");
        check.test(words, """
            take(0) = 0; count(9) = 1; restore(1) = ILLEGAL_STATE; restore(0) = 0; take(1) = 0; count(9) = 2
            restore(1) = 0""");
        check.test(words,
            "take(1) = 0; count(9) = 1; restore(0) = ILLEGAL_STATE; restore(1) = 0; take(1) = 0; count(9) = 1");
        String keeps = "A snapshot keeps everything but the text, the slots and the history.";
        check.test(keeps, """
            # the text
            write t0,0
            take(0) = 0; append(59) = 5; restore(0) = 0; count(11) = 5; clearText() = 5; restore(0) = 0
            count(11) = 0""");
        check.test(keeps, """
            # the slots: what slot 1 holds and that it holds something stays
            setIsland(7, 1) = 1; take(0) = 0; setIsland(8, 1) = 2; take(1) = 0; setIsland(9, 1) = 3
            restore(0) = 0; count(7) = 1; count(9) = 2; restore(1) = 0; count(7) = 2; count(9) = 2; restore(0) = 0
            count(7) = 1""");
        check.test(keeps, """
            # the history
            take(0) = 0; count(10) = 1; setIsland(8, 1) = 1; setIsland(9, 1) = 2; count(10) = 3
            restore(0) = 0; count(10) = 4; count(7) = 0; undo() = 3; count(7) = 2; undo() = 2; count(7) = 1""");
    }

    private void restoring() {
        check.test("To restore it makes all this as it was.", RICH, """
            # turn, part, wind, hands, timber, ships, islands and captures, each changed after the snapshot
            clearText() = 6; cut(2) = 0; sail(2, 2) = 31; repair(2, 0) = ILLEGAL_STATE; setIsland(51, 1) = 2
            setIsland(50, 0) = 1
            setTimber(0, 0) = 10; setTimber(1, 1) = 31; addShip(0, 80, 5, 1, 1, 1) = 3; grapple(0, 2) = 80
            fire(1, 0, 0) = 21; end() = 1; tell(1, 1) = 2; tell(0, 4) = 3; end() = 2; tell(0, 1) = 1; count(0) = 2
            restore(1) = 0
            count(0) = 0; count(1) = 1; count(2) = 5; count(3) = 3; count(4) = 3; count(5) = 3; count(6) = 7
            count(7) = 1; count(8) = 0
            captain(0, 0) = 31; captain(1, 0) = 62; captain(0, 1) = NONE; captain(0, 2) = 10; captain(1, 2) = 31
            ship(0, 1) = 40; ship(0, 3) = 20; ship(0, 5) = 40; ship(0, 7) = 2; ship(0, 9) = 2; ship(0, 10) = 2
            ship(1, 3) = 11; ship(1, 4) = 6; ship(1, 5) = 17; ship(1, 6) = 7; ship(1, 7) = NONE; ship(1, 9) = 0
            ship(1, 10) = 4
            ship(2, 2) = 3; ship(2, 7) = 0; ship(2, 10) = 0; ship(3, 0) = INVALID_ARGUMENT; on(50) = 8; on(51) = NONE
            on(80) = NONE
            # and that before the cards were told
            restore(0) = 0
            count(1) = 0; count(2) = 0; count(3) = 2; count(4) = 0; count(8) = 0; captain(0, 0) = 63; captain(1, 0) = 63
            captain(1, 2) = 33; ship(0, 7) = NONE; ship(0, 9) = 0; ship(0, 10) = 0
            ship(1, 3) = 20; ship(1, 4) = 7; ship(1, 5) = 20; ship(1, 6) = 8; ship(1, 10) = 0; tell(0, 5) = 1""");
        check.test("To restore it makes all this as it was.", """
            # a capture, a sunk ship and a card that one captain has told
            addShip(0, 40, 0, 8, 40, 9) = 0; addShip(1, 41, 0, 8, 1, 1) = 1; addShip(1, 48, 0, 8, 8, 8) = 2; take(0) = 0
            tell(0, 0) = 1; tell(1, 0) = 3; grapple(0, 1) = 41; fire(0, 1, 2) = 27; end() = 1; tell(1, 5) = 2
            take(1) = 1
            count(8) = 1; count(6) = 3; restore(0) = 0
            count(8) = 0; count(6) = 7; ship(1, 0) = 1; ship(1, 5) = 1; ship(0, 5) = 40; on(48) = 2
            captain(1, 1) = NONE
            restore(1) = 1
            count(8) = 1; count(6) = 3; ship(1, 0) = 0; ship(1, 5) = 19; ship(0, 5) = 20; on(48) = NONE
            captain(1, 1) = 5; count(4) = 2
            ship(0, 9) = 2; tell(1, 4) = ILLEGAL_STATE; tell(0, 1) = 3""");
    }

    // ---- the history

    private void history() {
        check.section("Undo");
        String words = "A history of at most 6 states is kept; a state is everything but the text and the history (the slots "
            + "belong to it).";
        StringBuilder rows = new StringBuilder("count(10) = 0; undo() = ILLEGAL_STATE\n");
        for (int i = 1; i <= 8; i++) {
            rows.append("setIsland(" + i + ", 1) = " + i + "; count(10) = " + Math.min(i, 6) + "\n");
        }
        check.test(words, rows.toString(),
            "undo() = 5; count(10) = 5; setIsland(20, 1) = 8; count(10) = 6; setIsland(21, 1) = 9; count(10) = 6");
        check.test(words, """
            # the text is no part of a state
            setIsland(1, 1) = 1
            write e;e
            undo() = 0; count(11) = 3; clearText() = 3; setIsland(1, 1) = 1; undo() = 0; count(11) = 0""");
        check.test(words, """
            # the slots are
            setIsland(1, 1) = 1; take(0) = 0; setIsland(2, 1) = 2; take(0) = 0; take(1) = 0; count(9) = 2
            undo() = 4; count(9) = 1; restore(1) = ILLEGAL_STATE; undo() = 3; restore(0) = 0; count(7) = 1
            undo() = 3; undo() = 2; undo() = 1; count(9) = 0; restore(0) = ILLEGAL_STATE""");
        for (int slot = 0; slot < 2; slot++) {
            check.test(words, """
                # what a slot held before it was filled again comes back too
                setIsland(1, 1) = 1; take(%1$d) = 0; setIsland(2, 1) = 2; take(%1$d) = 0; setIsland(3, 1) = 3
                restore(%1$d) = 0; count(7) = 2
                undo() = 5; undo() = 4; undo() = 3; restore(%1$d) = 0; count(7) = 1; count(9) = 1""".formatted(slot));
        }
        check.test("when a seventh one is recorded, the oldest one is dropped.", """
            setIsland(1, 1) = 1; setIsland(2, 1) = 2; setIsland(3, 1) = 3; setIsland(4, 1) = 4; setIsland(5, 1) = 5
            setIsland(6, 1) = 6
            count(10) = 6; undo() = 5; undo() = 4; undo() = 3; undo() = 2; undo() = 1; undo() = 0; count(7) = 0
            undo() = ILLEGAL_STATE""");
        check.test("when a seventh one is recorded, the oldest one is dropped.", """
            setIsland(1, 1) = 1; setIsland(2, 1) = 2; setIsland(3, 1) = 3; setIsland(4, 1) = 4; setIsland(5, 1) = 5
            setIsland(6, 1) = 6
            setIsland(7, 1) = 7; count(10) = 6
            undo() = 5; undo() = 4; undo() = 3; undo() = 2; undo() = 1; undo() = 0; count(7) = 1
            undo() = ILLEGAL_STATE; on(1) = 8; on(2) = NONE""");
        check.test("when a seventh one is recorded, the oldest one is dropped.", """
            # a refused call records nothing, so nothing is dropped
            setIsland(1, 1) = 1; setIsland(2, 1) = 2; setIsland(3, 1) = 3; setIsland(4, 1) = 4; setIsland(5, 1) = 5
            setIsland(6, 1) = 6
            setIsland(81, 1) = INVALID_ARGUMENT; restore(0) = ILLEGAL_STATE; count(10) = 6
            undo() = 5; undo() = 4; undo() = 3; undo() = 2; undo() = 1; undo() = 0; count(7) = 0""");
    }

    private void recording() {
        String words = "Every successful call of a method that is called an action records the state before it "
        + "(also if nothing "
            + "changes by it)";
        String[] idle = {"setIsland(7, 0) = 0", "setTimber(0, 10) = 10", "setTimber(1, 10) = 10"};
        for (String row : idle) {
            check.test(words, row, "count(10) = 1", row,
                "count(10) = 2; undo() = 1; undo() = 0; undo() = ILLEGAL_STATE");
        }
        check.test(words, """
            take(0) = 0; take(0) = 0; restore(0) = 0; restore(0) = 0; count(10) = 4; count(9) = 1; undo() = 3
            count(9) = 1""");
        check.test(words, "write x0", "carryOut() = 0; count(10) = 1; undo() = 0");
        check.test(words, """
            # a path that ends where it began
            addShip(0, 40, 1, 8, 40, 0) = 0; tell(0, 1) = 1; tell(1, 1) = 3
            sail(0, 222222) = 40; ship(0, 2) = 1; count(10) = 4; ship(0, 10) = 1; undo() = 3; ship(0, 10) = 0""");
        check.test(words, """
            # the others are no actions: append, clearText, undo and those that look
            write t0,0
            clearText() = 4; append(101) = 1; clearText() = 1; count(10) = 0
            addShip(0, 40, 1, 8, 40, 0) = 0; count(10) = 1; captain(0, 0) = 63; ship(0, 0) = 0; on(40) = 0
            targets(0, 0) = 0
            hits(0, 0, 0) = INVALID_ARGUMENT; way(0, 49, 0) = 1; reach(0) = ?; windBy(0, 0) = 1; bestCard(0, 49, 0) = 0
            threats(0) = 0; strength(0) = 35; count(10) = 1; undo() = 0; count(10) = 0""");
    }

    private void undoing() {
        String words = "undo() removes the latest state from the history and restores it.";
        check.test(words, """
            setTimber(0, 11) = 10; setTimber(0, 12) = 11; setTimber(0, 13) = 12
            undo() = 2; captain(0, 2) = 12; undo() = 1; captain(0, 2) = 11
            setTimber(0, 20) = 11; undo() = 1; captain(0, 2) = 11; undo() = 0; captain(0, 2) = 10
            undo() = ILLEGAL_STATE""");
        String before = """
            addShip(0, 40, 0, 8, 40, 3) = 0; addShip(1, 49, 0, 7, 20, 8) = 1; addShip(1, 31, 3, 8, 40, 9) = 2
            setIsland(50, 1) = 1; take(0) = 0; tell(0, 5) = 1
            """;
        undone(words, before, "tell(1, 0) = 3");
        undone(words, before, "restore(0) = 0");
        undone(words, before, "take(1) = 0");
        undone(words, before, "addShip(1, 80, 3, 2, 2, 2) = 3");
        before += "tell(1, 0) = 3\n";
        undone(words, before, "fire(0, 1, 1) = 9");
        undone(words, before, "sail(0, 2) = 40");
        undone(words, before, "grapple(0, 1) = 60");
        undone(words, before, "repair(1, 1) = 1");
        undone(words, before, "end() = 1");
        undone(words, before + "grapple(0, 1) = 60\n", "cut(0) = 1");
        undone(words, before + "grapple(0, 1) = 60\n", "end() = 1");
        undone(words, before, "setIsland(51, 1) = 2");
        undone(words, before, "setTimber(0, 99) = 10");
    }

    /** All that the methods tell after an action and undo() is as it was, but for the number of states. */
    private void undone(String words, String before, String action) {
        check.test(words, before, action, "count(10) = 6; undo() = 5");
        check.sameAfter(words, before, action.substring(0, action.indexOf(" = ")), "undo()");
    }

    // ---- errors

    private void errorsChangeNothing() {
        check.section("Errors");
        String[] refused = {"setIsland(81, 1) = INVALID_ARGUMENT", "setIsland(40, 1) = ILLEGAL_STATE",
            "setIsland(40, 0) = ILLEGAL_STATE",
            "addShip(0, 80, 0, 9, 1, 0) = INVALID_ARGUMENT", "addShip(0, 40, 0, 1, 1, 0) = ILLEGAL_STATE",
            "addShip(0, 50, 0, 1, 1, 0) = ILLEGAL_STATE", "setTimber(0, 100) = INVALID_ARGUMENT",
                "tell(0, 6) = INVALID_ARGUMENT",
            "tell(0, 1) = ILLEGAL_STATE", "sail(0, 4) = INVALID_ARGUMENT", "sail(0, 1) = ILLEGAL_STATE",
                "sail(1, 1) = ILLEGAL_STATE", "sail(1, 21111) = ILLEGAL_STATE",
            "fire(0, 1, 0) = INVALID_ARGUMENT", "fire(0, 1, 1) = ILLEGAL_STATE", "fire(1, 1, 0) = ILLEGAL_STATE",
            "grapple(0, 0) = INVALID_ARGUMENT", "grapple(1, 0) = ILLEGAL_STATE", "cut(3) = INVALID_ARGUMENT",
                "cut(1) = ILLEGAL_STATE",
            "repair(0, 3) = INVALID_ARGUMENT", "repair(1, 0) = ILLEGAL_STATE", "repair(0, 1) = ILLEGAL_STATE",
                "take(2) = INVALID_ARGUMENT",
            "restore(2) = INVALID_ARGUMENT", "append(0) = INVALID_ARGUMENT", "append(256) = INVALID_ARGUMENT",
                "carryOut() = -1005"};
        for (String row : refused) {
            check.test("A call that returns an error code changes nothing.", RICH, row);
        }
        check.test("A call that returns an error code changes nothing.", """
            end() = ILLEGAL_STATE; undo() = ILLEGAL_STATE; restore(0) = ILLEGAL_STATE; carryOut() = -1000
            tell(0, 0) = 1; end() = ILLEGAL_STATE; take(0) = 0; restore(1) = ILLEGAL_STATE""");
        check.test("A call that returns an error code changes nothing.", "write " + "e;".repeat(50),
            "append(101) = CAPACITY_EXCEEDED",
            "carryOut() = -1100; undo() = ILLEGAL_STATE");
        check.test("A call that returns an error code changes nothing.", """
            # a path of which only the last step is not possible
            addShip(0, 40, 1, 8, 40, 0) = 0; setIsland(66, 1) = 1; tell(0, 1) = 1; tell(1, 1) = 3
            sail(0, 111211) = ILLEGAL_STATE; sail(0, 1121) = ILLEGAL_STATE; sail(0, 112) = 58""");
    }

    private void firstError() {
        String words = "If several error conditions apply, the method returns the one that its description lists first";
        StringBuilder eight = new StringBuilder();
        for (int ship = 0; ship < 8; ship++) {
            eight.append("addShip(" + ship % 2 + ", " + 10 * ship + ", 0, 1, 1, 0) = " + ship + "\n");
        }
        check.test(words, eight.toString(), """
            # no room, then no free hex too, then a wrong argument too
            addShip(0, 5, 0, 1, 1, 0) = CAPACITY_EXCEEDED; addShip(0, 10, 0, 1, 1, 0) = ILLEGAL_STATE
            addShip(0, 10, 0, 1, 41, 0) = INVALID_ARGUMENT; addShip(0, 5, 0, 9, 1, 0) = INVALID_ARGUMENT""");
        check.test(words, """
            addShip(0, 40, 0, 1, 1, 0) = 0
            setIsland(40, 2) = INVALID_ARGUMENT; tell(0, 0) = 1; tell(0, 6) = INVALID_ARGUMENT
            tell(2, 0) = INVALID_ARGUMENT
            # in the part of the cards
            sail(1, 1) = INVALID_ARGUMENT; sail(0, 0) = INVALID_ARGUMENT; fire(0, 1, 0) = INVALID_ARGUMENT
            fire(0, 2, 1) = INVALID_ARGUMENT
            grapple(0, 0) = INVALID_ARGUMENT; grapple(0, 1) = INVALID_ARGUMENT; cut(1) = INVALID_ARGUMENT
            repair(0, 3) = INVALID_ARGUMENT
            repair(1, 0) = INVALID_ARGUMENT; restore(2) = INVALID_ARGUMENT""");
        check.test(words, "write " + "q".repeat(100),
            "append(0) = INVALID_ARGUMENT; append(256) = INVALID_ARGUMENT; append(1) = CAPACITY_EXCEEDED");
    }

    private void none() {
        String words = "NONE is no error, and it is returned only if no error condition applies.";
        check.test(words, """
            addShip(0, 40, 0, 8, 8, 9) = 0; addShip(1, 44, 0, 8, 8, 9) = 1
            hits(0, 1, 1) = NONE; hits(0, 2, 1) = INVALID_ARGUMENT; hits(0, 1, 0) = INVALID_ARGUMENT
            hits(0, 1, 2) = INVALID_ARGUMENT
            way(0, 40, 0) = NONE; way(0, 40, 3) = INVALID_ARGUMENT; way(0, 80, 0) = NONE
            way(0, 81, 0) = INVALID_ARGUMENT
            bestCard(0, 40, 0) = NONE; bestCard(0, 40, 2) = INVALID_ARGUMENT; bestCard(2, 40, 0) = INVALID_ARGUMENT
            ship(0, 7) = NONE; ship(2, 7) = INVALID_ARGUMENT; captain(0, 1) = NONE; captain(2, 1) = INVALID_ARGUMENT
            on(0) = NONE; on(81) = INVALID_ARGUMENT""");
        check.test(words, """
            # an order whose answer is 0 is no error either, and those after it are carried out
            addShip(0, 40, 0, 8, 8, 0) = 0; addShip(1, 49, 0, 8, 8, 0) = 1
            write t0,0;t1,0;f0,1,1;e
            carryOut() = 4""");
    }

    private void constants() {
        check.test("The constants: `INVALID_ARGUMENT = -1`: An argument is out of range, or names something that "
            + "does not exist.", """
            INVALID_ARGUMENT = -1
            on(81) = -1; ship(0, 0) = -1; targets(0, 0) = -1; count(12) = -1""");
        check.test("names something that does not exist.", """
            ship(0, 0) = INVALID_ARGUMENT; addShip(0, 40, 0, 1, 1, 0) = 0; ship(0, 0) = 0; ship(1, 0) = INVALID_ARGUMENT
            undo() = 0; ship(0, 0) = INVALID_ARGUMENT""");
        check.test("`ILLEGAL_STATE = -2`: The call is not possible in the present state.",
            "ILLEGAL_STATE = -2; end() = -2; undo() = -2; restore(1) = -2");
        check.test("`CAPACITY_EXCEEDED = -3`: There is no room.", "CAPACITY_EXCEEDED = -3", "write " + "e".repeat(100),
            "append(1) = -3");
        check.test("`NONE = -9`: There is no such value.", "NONE = -9; on(0) = -9; captain(0, 1) = -9");
    }

    private void whatCouldBe() {
        check.plain("interface says: ---- setting up.");
        check.plain("interface says: ---- a turn.");
        check.plain("interface says: ---- snapshots.");
        check.plain("interface says: ---- text.");
        check.plain("interface says: ---- looking.");
        String[] calls = {"targets(0, 0)", "targets(0, 1)", "hits(0, 1, 1)", "hits(2, 1, 0)", "way(0, 41, 0)",
            "way(1, 57, 2)", "way(1, 50, 1)",
            "reach(0)", "reach(1)", "windBy(5, 5)", "bestCard(0, 41, 0)", "bestCard(1, 57, 1)", "bestCard(1, 50, 0)",
                "threats(0)", "threats(1)",
            "strength(0)", "strength(1)"};
        check.changesNothing("what could be, which changes nothing", RICH, calls);
        check.changesNothing("what could be, which changes nothing",
            "addShip(0, 40, 0, 8, 8, 9) = 0; addShip(1, 49, 1, 8, 8, 9) = 1; tell(1, 3) = 2",
            "way(0, 41, 0)", "bestCard(0, 41, 0)", "bestCard(1, 58, 1)", "reach(1)", "windBy(0, 3)", "hits(0, 1, 1)");
        String part = "it plays no part which part of the turn this is and what was done in it.";
        check.test(part, """
            # the cards 1 and 5 leave the wind's direction as it was, and its strength becomes 1: 2 steps by 4 before
            addShip(0, 40, 1, 8, 8, 1) = 0; addShip(1, 48, 1, 8, 8, 1) = 1
            targets(0, 1) = 2; hits(0, 1, 1) = 3; threats(1) = 1; threats(0) = 2; way(0, 58, 0) = 11; strength(0) = 20
            tell(0, 1) = 1; way(0, 58, 0) = 11; bestCard(0, 58, 1) = 4; tell(1, 5) = 3
            targets(0, 1) = 2; hits(0, 1, 1) = 3; threats(1) = 1; threats(0) = 2; way(0, 58, 0) = 11; reach(0) = 3
            strength(0) = 20
            fire(0, 1, 1) = 3; sail(0, 23) = 40; sail(1, 2) = 48; ship(0, 10) = 3
            # ship 0 has sailed and fired, and can do neither now
            targets(0, 1) = 2; hits(0, 1, 1) = 3; threats(1) = 1; threats(0) = 0; way(0, 58, 0) = 11; reach(0) = 3
            fire(0, 1, 1) = ILLEGAL_STATE; sail(0, 11) = ILLEGAL_STATE
            end() = 1; targets(0, 1) = 2; hits(0, 1, 1) = 3; threats(1) = 1; way(0, 58, 0) = 11""");
    }
}
