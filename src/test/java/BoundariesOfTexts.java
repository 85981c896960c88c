/** The boundary cases of the promises 14 to 18. */
final class BoundariesOfTexts {
    private static final Class<IllegalArgumentException> ARGUMENT = Sentences.ARGUMENT;
    private static final Class<IllegalStateException> STATE = Sentences.STATE;
    private static final int NONE = ShipStores.NONE;
    private static final String KINDS = "01234567";
    private static final String AMOUNTS = "123456789";
    private static final String NINE_MENUS = "-;-;-;-;-;-;-;-;-;";

    private final Sentences doc;

    BoundariesOfTexts(Sentences doc) {
        this.doc = doc;
    }

    void test() {
        append();
        clearBuffer();
        menusAsTexts();
        items();
        firstError();
        load();
        loadAnswers();
        loadIsRefused();
        undo();
        undoables();
        notUndoables();
        undoIsRefused();
    }

    private void append() {
        doc.promise(14);
        doc.says("The buffer has at most 60 characters.", () -> {
            ShipStores ship = new ShipStores();
            for (int length = 1; length <= 60; length++) {
                doc.equal("append", ship.append(33 + length), length);
            }
            doc.thrown("a character more", ship, STATE, it -> it.append(33));
            doc.equal("the buffer's length", ship.clearBuffer(), 60);
            doc.equal("append to an empty buffer again", ship.append(33), 1);
        });
        doc.says("Appends a character to the buffer.", () -> {
            ShipStores ship = Ships.inPort();
            Checks.write(ship, "0*1");
            doc.equal("it goes to the end", ship.firstError(), 3);
            doc.equal("load", ship.load(), 1);
            doc.row("the item", what -> ship.menu(0, 0, what), 0, 1, NONE);
        });
        doc.says("`code`: the character code, 33 to 126", () -> {
            for (int code = 33; code <= 126; code++) {
                ShipStores ship = new ShipStores();
                doc.equal("append(" + code + ")", ship.append(code), 1);
                doc.equal("digest with " + code, ship.digest(), 31 * digestOfLength(1) + code);
            }
        });
        doc.says("Returns the new length of the buffer.", () -> {
            ShipStores ship = new ShipStores();
            doc.equal("of an empty one", ship.append('x'), 1);
            doc.equal("the second", ship.append('x'), 2);
            doc.equal("the last", Ships.withBuffer("x".repeat(59)).append('x'), 60);
        });
        doc.says("Throws `IllegalArgumentException` if code is not 33 to 126", () -> {
            for (int code : new int[] {32, 127, 0, -1, 256 + '-', 65536 + '-', Integer.MIN_VALUE, Integer.MAX_VALUE}) {
                doc.refused("append(" + code + ")", Ships::inPort, ARGUMENT, ship -> ship.append(code));
            }
        });
        doc.says("Throws `IllegalStateException` if the buffer has 60 characters", () -> {
            doc.refused("the character 61", () -> Ships.withBuffer("x".repeat(60)), STATE, ship -> ship.append('x'));
            doc.equal("the character 60", Ships.withBuffer("x".repeat(59)).append('x'), 60);
        });
        doc.changesNothing(() -> {
            doc.refused("the character 61", Ships::full, STATE, ship -> ship.append('-'));
            doc.refused("no character", () -> Ships.withBuffer("0*1"), ARGUMENT, ship -> ship.append(127));
        });
        doc.firstNamed(() -> {
            doc.refused("no character, with a full buffer", Ships::full, ARGUMENT, ship -> ship.append(32));
            doc.refused("another one", Ships::full, ARGUMENT, ship -> ship.append(127));
        });
    }

    /** The digest of a new ship up to the length of its buffer. */
    private static long digestOfLength(int length) {
        return new ShipStores().digest() + length;
    }

    private void clearBuffer() {
        doc.promise(15);
        doc.says("Clears the buffer.", () -> {
            for (int length : new int[] {0, 1, 59, 60}) {
                ShipStores ship = Ships.withBuffer("x".repeat(length));
                ship.clearBuffer();
                doc.equal("no error is in it", ship.firstError(), 0);
                doc.equal("nothing is in it", ship.clearBuffer(), 0);
                doc.equal("no state was saved for it", ship.count(9), 5);
                Checks.write(ship, "0*1");
                doc.equal("no character from before", ship.load(), 1);
            }
        });
        doc.says("Returns the length that it had.", () -> {
            for (int length : new int[] {0, 1, 59, 60}) {
                doc.equal("clearBuffer", Ships.withBuffer("x".repeat(length)).clearBuffer(), length);
            }
        });
    }

    /** Behind the text, just these characters are no syntax error, of all that can be appended. */
    private void goesOnWith(String text, String allowed) {
        for (int code = 33; code <= 126; code++) {
            String longer = text + (char) code;
            int due = allowed.indexOf(code) >= 0 ? longer.length() : text.length();
            doc.equal("firstError of " + longer, Ships.withBuffer(longer).firstError(), due);
        }
    }

    private void menusAsTexts() {
        doc.promise(16);
        String sentence = "Menus are written as 1 to 10 menus separated by \";\"; a menu is empty (\"-\"), or has 1 to 4 items"
            + " separated by \",\"; an item is the digit of its kind (0 to 7), \"*\", the digit of its amount (1 to 9), and"
            + " possibly \"/\" and the digit of another kind.";
        doc.says(sentence, () -> goesOnWith("", "-" + KINDS));
        doc.says("Menus are written as 1 to 10 menus separated by \";\"", () -> {
            goesOnWith("-;", "-" + KINDS);
            goesOnWith("0*1;", "-" + KINDS);
            goesOnWith(NINE_MENUS, "-" + KINDS);
            goesOnWith(NINE_MENUS + "-", "");
            goesOnWith("-;-;-;-;-;-;-;-;-", ";");
            goesOnWith(NINE_MENUS + "0*1", "/,");
            goesOnWith(NINE_MENUS + "0*1/2", ",");
            goesOnWith("0*1;0*1;0*1;0*1;0*1;0*1;0*1;0*1;0*1", "/,;");
            goesOnWith("0*1;0*1;0*1;0*1;0*1;0*1;0*1;0*1;0*1;0*1", "/,");
        });
        doc.says("a menu is empty (\"-\")", () -> {
            goesOnWith("-", ";");
            goesOnWith("0*1;-", ";");
            goesOnWith("0*1,1*1,2*1,3*1;-", ";");
        });
        doc.says("or has 1 to 4 items separated by \",\"", () -> {
            goesOnWith("0*1,", KINDS);
            goesOnWith("0*1/1,", KINDS);
            goesOnWith("0*1,1*1", "/,;");
            goesOnWith("0*1,1*1,2*1", "/,;");
            goesOnWith("0*1,1*1,2*1,", KINDS);
            goesOnWith("0*1,1*1,2*1,3*1", "/;");
            goesOnWith("0*1,1*1,2*1,3*1/0", ";");
            goesOnWith("0*1/1,1*1/0,2*1/0", ",;");
            goesOnWith("-;0*1,1*1,2*1,3*1;0*1", "/,;");
            goesOnWith("0*1,0*1,0*1,0*1;0*1,0*1,0*1,0*1", "/;");
            goesOnWith(NINE_MENUS + "0*1,0*1,0*1,0*1", "/");
            goesOnWith(NINE_MENUS + "0*1,0*1,0*1,0*1/1", "");
        });
    }

    private void items() {
        doc.says("an item is the digit of its kind (0 to 7), \"*\", the digit of its amount (1 to 9), and possibly \"/\" and"
            + " the digit of another kind.", () -> {
                goesOnWith("0", "*");
                goesOnWith("7", "*");
                goesOnWith("0*", AMOUNTS);
                goesOnWith("7*", AMOUNTS);
                goesOnWith("0*1", "/,;");
                goesOnWith("0*9", "/,;");
                goesOnWith("0*1/1", ",;");
                goesOnWith("7*9/0", ",;");
                goesOnWith("1*1,0", "*");
                goesOnWith("1*1;0*", AMOUNTS);
            });
        doc.says("the digit of another kind.", () -> {
            for (int kind = 0; kind <= 7; kind++) {
                goesOnWith(kind + "*1/", KINDS.replace("" + kind, ""));
            }
            goesOnWith("0*1,5*1/", KINDS.replace("5", ""));
            goesOnWith("0*1;-;3*1/", KINDS.replace("3", ""));
        });
        doc.says("(Whether there are such kinds is no matter of syntax.)", () -> {
            ShipStores ship = new ShipStores();
            Checks.write(ship, "0*1/7,7*9/6");
            doc.equal("without kinds", ship.firstError(), 11);
        });
    }

    private void firstErrorIs(String text, int due) {
        doc.equal("firstError of " + text, Ships.withBuffer(text).firstError(), due);
    }

    private void firstError() {
        doc.says("The buffer is read from left to right; a character is a syntax error if no text of menus, of any length,"
            + " begins with the characters before it and this character.", () -> {
                firstErrorIs("x0*1", 0);
                firstErrorIs("0x1;", 1);
                firstErrorIs("0*1x0*1", 3);
                firstErrorIs("0*0/0;;", 2);
                firstErrorIs("0*1/0/1", 4);
            });
        doc.says("of any length", () -> {
            String sixty = "0*1/2,0*1/2,0*1/2,0*1/2;0*1/2,0*1/2,0*1/2,0*1/2;0*1/2,0*1/2,";
            firstErrorIs(sixty, 60);
            firstErrorIs(sixty.substring(0, 59), 59);
            firstErrorIs(sixty.substring(0, 59) + ";", 60);
            firstErrorIs(sixty.substring(0, 59) + "-", 59);
            firstErrorIs(sixty.substring(0, 54) + "0*1/2*", 59);
        });
        doc.says("Finds the first syntax error of the buffer.", () -> {
            doc.looksOnly("in an empty one", Ships::inPort, ShipStores::firstError);
            doc.looksOnly("in a full one", Ships::full, ShipStores::firstError);
            firstErrorIs("8*1,9*1", 0);
            firstErrorIs("0*1;;0*1;;", 4);
            ShipStores ship = Ships.withBuffer("0*1,1*2,0*3,1*4/0;-;0*5,1*6/0");
            doc.equal("the first time", ship.firstError(), 29);
            doc.equal("once more", ship.firstError(), 29);
            doc.equal("load behind it", ship.load(), 3);
            doc.row("amounts of the first menu", item -> ship.menu(0, item, 1), 1, 2, 3, 4);
            doc.row("substitutes of the first", item -> ship.menu(0, item, 2), NONE, NONE, NONE, 0);
            doc.row("no item of the second", item -> ship.menu(1, item, 1), NONE, NONE, NONE, NONE);
            doc.row("substitutes of the third", item -> ship.menu(2, item, 2), NONE, 0, NONE, NONE);
        });
        doc.says("Returns the index of the first character that is a syntax error; the length of the buffer if there is none.",
            () -> {
                firstErrorIs("", 0);
                firstErrorIs("~", 0);
                firstErrorIs("0", 1);
                firstErrorIs("-", 1);
                firstErrorIs("--", 1);
                firstErrorIs("0*1/", 4);
                firstErrorIs(NINE_MENUS + "-", 19);
                firstErrorIs(NINE_MENUS + "-;", 19);
                firstErrorIs("x".repeat(60), 0);
                firstErrorIs("0*1;".repeat(15), 39);
            });
    }

    private void load() {
        doc.promise(17);
        doc.says("Replaces all menus by those in the buffer, and clears the buffer.", () -> {
            ShipStores ship = Ships.full();
            ship.clearBuffer();
            Checks.write(ship, "7*9/0");
            doc.equal("load", ship.load(), 1);
            doc.equal("menus", ship.count(4), 1);
            doc.row("the item", what -> ship.menu(0, 0, what), 7, 9, 0);
            for (int item = 1; item <= 3; item++) {
                int number = item;
                doc.row("no item from before", what -> ship.menu(0, number, what), NONE, NONE, NONE);
            }
            doc.thrown("no menu from before", ship, Sentences.INDEX, it -> it.menu(1, 0, 0));
            doc.equal("the buffer's length", ship.clearBuffer(), 0);
            Checks.write(ship, "-");
            ship.load();
            doc.row("the empty menu", what -> ship.menu(0, 0, what), NONE, NONE, NONE);
            ship.pass(1);
            doc.equal("nothing is served", ship.count(8), 0);
        });
        doc.says("There are 1 to 10 menus, of at most 4 items each", () -> {
            ShipStores ship = Ships.full();
            doc.equal("ten", Checks.serve(ship, NINE_MENUS + "7*9/0,6*8/1,5*7/2,4*6/3"), 10);
            int[][] due = {{7, 9, 0}, {6, 8, 1}, {5, 7, 2}, {4, 6, 3}};
            for (int item = 0; item <= 3; item++) {
                int number = item;
                doc.row("item " + item, what -> ship.menu(9, number, what), due[item]);
                doc.row("no item " + item, what -> ship.menu(8, number, what), NONE, NONE, NONE);
            }
            doc.equal("one", Checks.serve(ship, "-"), 1);
        });
        doc.says("Undoable.", () -> {
            ShipStores ship = new ShipStores();
            Checks.serve(ship, "-;-;-");
            Checks.write(ship, "-;-");
            ship.load();
            doc.equal("undo", ship.undo(), 1);
            doc.equal("menus", ship.count(4), 3);
            doc.equal("undo", ship.undo(), 0);
            doc.equal("menus", ship.count(4), 1);
            doc.equal("the buffer stays clear", ship.clearBuffer(), 0);
            doc.undone("menus with items", () -> Ships.withPorts(1), it -> Checks.serve(it, "-;-"));
        });
    }

    private void loadAnswers() {
        doc.says("Returns the number of menus then.", () -> {
            for (int menus = 1; menus <= 10; menus++) {
                doc.equal("load", Checks.serve(Ships.full(), "-;".repeat(menus - 1) + "0*1"), menus);
            }
        });
        doc.says("an amount (1 to 9 rations a head)", () -> {
            ShipStores ship = Ships.inPort();
            Checks.serve(ship, "0*1,1*9");
            doc.row("amounts", item -> ship.menu(0, item, 1), 1, 9, NONE, NONE);
        });
    }

    private void loadIsRefused() {
        doc.says("Throws `IllegalArgumentException` if the buffer is not a complete text of menus", () -> {
            String[] texts = {"", "0", "0*", "0*1/", "0*1,", "0*1;", "-;", "0*1,1*1;", ";", ",", "x", "0*1x", "-x", "--", "0*0",
                "8*1", "0*1/0", "0*1,1*1,0*1,1*1,0*1", NINE_MENUS, NINE_MENUS + "-;", NINE_MENUS + "-;-", "0*1;;0*1", "0*1-"};
            for (String text : texts) {
                doc.refused("load of " + text, () -> Ships.withBuffer(text), ARGUMENT, ShipStores::load);
            }
        });
        doc.says("Throws `IllegalStateException` if it names a kind that does not exist", () -> {
            for (int kinds = 0; kinds < 8; kinds++) {
                int number = kinds;
                int other = kinds == 0 ? 7 : 0;
                for (String text : new String[] {kinds + "*1", "-;" + kinds + "*1/" + other, other + "*1/" + kinds,
                    "7*1;-", "-;0*1/7"}) {
                    doc.refused("load of " + text + " with " + kinds, () -> {
                        ShipStores ship = Ships.withKinds(number);
                        Checks.write(ship, text);
                        return ship;
                    }, STATE, ShipStores::load);
                }
                ShipStores more = Ships.withKinds(kinds + 1);
                doc.equal("a kind more", Checks.serve(more, kinds + "*1"), 1);
            }
            doc.equal("the kind 7 as a substitute", Checks.serve(Ships.withKinds(8), "0*1/7"), 1);
            doc.equal("no kinds are named", Checks.serve(new ShipStores(), "-;-"), 2);
        });
        doc.changesNothing(() -> {
            doc.refused("no text of menus", Ships::full, ARGUMENT, ShipStores::load);
            doc.refused("a kind that is not", () -> Ships.withBuffer("0*1;1*1;2*1"), STATE, ShipStores::load);
            ShipStores ship = Ships.withBuffer("0*1;1*1/2");
            doc.thrown("a kind that is not", ship, STATE, ShipStores::load);
            doc.equal("the buffer stays", ship.firstError(), 9);
            ship.addKind(1, 1, 1);
            doc.equal("now it is", ship.load(), 2);
        });
        doc.firstNamed(() -> {
            for (String text : new String[] {"7*1;", "7*", "7*1x", "0*1/7,", "2*1,"}) {
                doc.refused("load of " + text, () -> Ships.withBuffer(text), ARGUMENT, ShipStores::load);
            }
        });
    }

    private void undo() {
        doc.promise(18);
        doc.says("At most 6 states are saved; the oldest one is dropped first.", () -> {
            for (int saved = 0; saved <= 20; saved++) {
                ShipStores ship = new ShipStores();
                for (int heads = 1; heads <= saved; heads++) {
                    ship.setCrew(20 + heads);
                    doc.equal("saved states", ship.count(9), Math.min(heads, 6));
                }
                for (int left = Math.min(saved, 6) - 1; left >= 0; left--) {
                    doc.equal("undo", ship.undo(), left);
                }
                doc.equal("the oldest one of " + saved, ship.count(5), saved <= 6 ? 10 : 20 + saved - 6);
                doc.thrown("none is left", ship, STATE, ShipStores::undo);
            }
        });
        doc.says("Restores the latest saved state, and drops it.", () -> {
            ShipStores ship = new ShipStores();
            for (int heads = 1; heads <= 9; heads++) {
                ship.setCrew(heads);
            }
            ship.undo();
            doc.equal("the latest", ship.count(5), 8);
            ship.undo();
            doc.equal("the one before", ship.count(5), 7);
            ship.setCrew(50);
            ship.undo();
            doc.equal("the latest again", ship.count(5), 7);
            int[] due = {6, 5, 4, 3};
            for (int heads : due) {
                ship.undo();
                doc.equal("those before", ship.count(5), heads);
            }
            doc.thrown("none is left", ship, STATE, ShipStores::undo);
        });
        doc.says("Returns how many saved states are left.", () -> {
            ShipStores ship = Ships.full();
            for (int left = 5; left >= 0; left--) {
                doc.equal("undo", ship.undo(), left);
                doc.equal("saved states", ship.count(9), left);
            }
        });
        doc.says("without the buffer and the saved states.", () -> {
            ShipStores ship = Ships.withBuffer("0*1");
            ship.setCrew(1);
            ship.append('x');
            ship.undo();
            doc.equal("the buffer stays as it is", ship.clearBuffer(), 4);
            ship.undo();
            doc.equal("also when it is clear", ship.clearBuffer(), 0);
            ShipStores loaded = Ships.inPort();
            Checks.serve(loaded, "0*1");
            loaded.undo();
            doc.equal("load's text is not brought back", loaded.clearBuffer(), 0);
        });
    }

    private void undoables() {
        doc.says("Each method that is marked \"undoable\" and does not throw an exception saves the whole state from before it",
            () -> {
                Sentences.Call[] calls = {ship -> ship.addKind(1, 1, 1), ship -> ship.setRoom(0, 1000),
                    ship -> ship.warm(1, 0), ship -> ship.setCrew(10), ship -> ship.pay(0), ship -> ship.addPort(5, 5),
                    ship -> ship.removePort(0), ship -> ship.setPrice(0, 0, 1), ship -> ship.buy(0, 1, 0),
                    ship -> ship.move(0, 5, 1), ship -> ship.move(0, 4, 1), ship -> ship.discard(0, 5),
                    ship -> ship.discard(0, 4), ship -> ship.pass(1), ship -> ship.pass(60),
                    ship -> Checks.serve(ship, "-;0*2/1"), ship -> Checks.serve(ship, "-")};
                for (int call = 0; call < calls.length; call++) {
                    doc.undone("the call " + call, BoundariesOfTexts::withALot, calls[call]);
                }
            });
        doc.says("saves the whole state from before it", () -> {
            ShipStores ship = BoundariesOfTexts.changed();
            ShipStores twin = BoundariesOfTexts.changed();
            ship.pass(60);
            ship.undo();
            for (int what = 0; what <= 12; what++) {
                doc.equal("count(" + what + ")", ship.count(what), what == 9 ? 5 : twin.count(what));
            }
            for (int lot = 0; lot < twin.count(2); lot++) {
                for (int what = 0; what <= 5; what++) {
                    doc.equal("lot(" + lot + ", " + what + ")", ship.lot(lot, what), twin.lot(lot, what));
                }
            }
            for (int what = 0; what <= 9; what++) {
                doc.equal("kind(0, " + what + ")", ship.kind(0, what), twin.kind(0, what));
                doc.equal("kind(7, " + what + ")", ship.kind(7, what), twin.kind(7, what));
            }
            doc.row("warm days", store -> ship.store(store, 3), 0, 3, 4);
            ship.pass(60);
            twin.pass(60);
            doc.equal("the days to come", ship.digest(), twin.digest());
        });
    }

    /** Five saved states. */
    private static ShipStores withALot() {
        ShipStores ship = Ships.withPorts(1);
        ship.addKind(10, 20, 100);
        ship.addKind(0, 4, 50);
        ship.setPrice(0, 0, 1);
        ship.buy(0, 5, 0);
        return ship;
    }

    private static ShipStores changed() {
        ShipStores ship = Ships.full();
        ship.pass(2);
        ship.warm(1, 3);
        ship.warm(2, 4);
        return ship;
    }

    private void notUndoables() {
        doc.says("Each method that is marked \"undoable\"", () -> {
            ShipStores ship = Ships.full();
            ship.undo();
            ship.clearBuffer();
            ship.append('-');
            ship.firstError();
            for (int what = 0; what <= 12; what++) {
                ship.count(what);
            }
            ship.lot(0, 4);
            ship.store(0, 1);
            ship.kind(0, 7);
            ship.port(0, 10);
            ship.menu(0, 0, 0);
            ship.why(0, 1, 0);
            ship.ifPass(60, 0);
            ship.spoils(0, 60);
            ship.shortIn(0);
            ship.bestStore(0);
            ship.leastPurchase(0, 0);
            ship.cheapest(0);
            ship.meanAge();
            ship.digest();
            doc.equal("no other method saves a state", ship.count(9), 5);
            doc.equal("nor does undo", ship.undo(), 4);
        });
        doc.says("and does not throw an exception", () -> {
            ShipStores ship = new ShipStores();
            doc.thrown("setCrew(0)", ship, ARGUMENT, it -> it.setCrew(0));
            doc.thrown("pass(61)", ship, ARGUMENT, it -> it.pass(61));
            doc.thrown("load", ship, ARGUMENT, ShipStores::load);
            doc.equal("no state is saved", ship.count(9), 0);
            doc.thrown("undo", ship, STATE, ShipStores::undo);
        });
    }

    private void undoIsRefused() {
        doc.says("Throws `IllegalStateException` if there is none", () -> {
            doc.refused("of a new ship", ShipStores::new, STATE, ShipStores::undo);
            ShipStores ship = Ships.full();
            for (int state = 0; state < 6; state++) {
                ship.undo();
            }
            doc.thrown("the seventh", ship, STATE, ShipStores::undo);
            ship.setCrew(1);
            doc.equal("a state again", ship.undo(), 0);
            doc.thrown("none again", ship, STATE, ShipStores::undo);
        });
        doc.changesNothing(() ->
            doc.refused("with food and a buffer", () -> {
                ShipStores ship = Ships.full();
                for (int state = 0; state < 6; state++) {
                    ship.undo();
                }
                return ship;
            }, STATE, ShipStores::undo));
    }
}
