/** The boundary cases of the promises 19 to 24. */
final class BoundariesOfProperties {
    private static final Class<IllegalArgumentException> ARGUMENT = Sentences.ARGUMENT;
    private static final Class<IndexOutOfBoundsException> INDEX = Sentences.INDEX;
    private static final int NONE = ShipStores.NONE;

    private final Sentences doc;

    BoundariesOfProperties(Sentences doc) {
        this.doc = doc;
    }

    void test() {
        lot();
        daysLeft();
        placeOfALot();
        lotThrows();
        store();
        kind();
        kindThrows();
        port();
        portThrows();
        menu();
        menuThrows();
        count();
        countOfPorts();
        countThrows();
    }

    private void lot() {
        doc.promise(19);
        doc.says("Returns a property of a lot.", () -> {
            ShipStores ship = Ships.selling(900, Ships.lives(1, 200, 200));
            ship.buy(0, 1, 0);
            ship.setRoom(2, 5000);
            ship.buy(0, 2000, 2);
            doc.row("the first", what -> ship.lot(0, what), 0, 0, 1, 900, 1, 0);
            doc.row("the second", what -> ship.lot(1, what), 0, 2, 2000, 900, 20, 1);
        });
        doc.says("Returns a property", () -> doc.looksOnly("a lot", Ships::full, ship -> ship.lot(29, 5)));
        doc.says("`lot`: its number", () -> {
            ShipStores ship = Ships.full();
            for (int lot = 0; lot < 30; lot++) {
                int number = lot;
                doc.row("the lot " + lot, what -> ship.lot(number, what), lot % 8, lot % 3, 10 + lot, 0);
            }
        });
        doc.says("`what`: 0: kind; 1: store; 2: amount; 3: age; 4: days left; 5: its place in the order in which lots of its"
            + " kind are eaten, from 0", () -> {
                ShipStores ship = Ships.full();
                doc.row("the first", what -> ship.lot(0, what), 0, 0, 10, 0, 10, 0);
                doc.row("the last", what -> ship.lot(29, what), 5, 2, 39, 0, 112, 3);
            });
        doc.says("Returns the property.", () -> {
            ShipStores ship = Ships.selling(0, Ships.lives(3, 3, 3));
            ship.buy(0, 1, 0);
            ship.pass(3);
            doc.row("the oldest that there can be", what -> ship.lot(0, what), 0, 0, 1, 999, 1, 0);
        });
        doc.says("A lot has a kind, a store, an amount above 0, and an age", () -> {
            ShipStores ship = Ships.withLots(1);
            ship.discard(0, 9);
            doc.row("a ration", what -> ship.lot(0, what), 0, 2, 1, 0);
        });
    }

    private void daysLeftIs(String what, int[] lives, int store, int warmDays, int due) {
        ShipStores ship = Ships.selling(0, lives);
        ship.warm(store, warmDays);
        int bought = lives[0] > 0 ? 0 : 3 - store;
        ship.buy(0, 1, bought);
        ship.move(0, 1, store);
        doc.equal(what + ", warm for " + warmDays, ship.lot(0, 4), due);
        ship.pass(Math.max(1, due - 1));
        doc.equal(what + ": lots on the last morning", ship.count(2), due > 1 ? 1 : 0);
        ship.pass(1);
        doc.equal(what + ": lots when it is spoiled", ship.count(2), 0);
    }

    private void daysLeft() {
        doc.says("The days left of a lot are how many days will pass until it is spoiled, if it stays where it is, nothing is"
            + " eaten, and stores are warm as long as they are told to be (so it is above 0).", () -> {
                int[] lives = Ships.lives(10, 20, 40);
                int[] due = {20, 1 + 18, 2 + 16, 3 + 14, 4 + 12, 5 + 10, 6 + 8, 7 + 6, 8 + 4, 9 + 2, 10, 10, 10};
                for (int warmDays = 0; warmDays < due.length; warmDays++) {
                    daysLeftIs("in the store 1", lives, 1, warmDays, due[warmDays]);
                }
                daysLeftIs("in the store 2", lives, 2, 30, 10);
                daysLeftIs("in the store 2", lives, 2, 9, 9 + 4);
                daysLeftIs("in the store 2", lives, 2, 0, 40);
            });
        doc.says("as long as they are told to be", () -> {
            daysLeftIs("longer in the warm", Ships.lives(50, 4, 4), 1, 1, 1 + 4);
            daysLeftIs("longer in the warm", Ships.lives(50, 4, 4), 1, 12, 12 + 4);
            daysLeftIs("longer in the warm", Ships.lives(50, 4, 4), 1, 13, 13 + 3);
            daysLeftIs("longer in the warm", Ships.lives(50, 4, 4), 2, 30, 30 + 2);
            daysLeftIs("rounded", Ships.lives(7, 3, 3), 1, 7, 8);
            daysLeftIs("rounded", Ships.lives(7, 3, 3), 1, 6, 7);
            daysLeftIs("rounded", Ships.lives(7, 3, 3), 1, 0, 4);
        });
        doc.says("(so it is above 0)", () -> {
            daysLeftIs("warm, with no life in the store 0", Ships.lives(0, 20, 40), 1, 1, 1);
            daysLeftIs("no life in its store", Ships.lives(10, 0, 40), 1, 0, 1);
            daysLeftIs("no life but in the warm", Ships.lives(10, 0, 40), 1, 1, 1 + 1);
            daysLeftIs("no life but in the warm", Ships.lives(10, 0, 40), 1, 30, 10);
            daysLeftIs("a life of 1", Ships.lives(10, 1, 40), 1, 0, 1);
            ShipStores ship = Ships.selling(0, Ships.lives(3, 3, 3));
            ship.buy(0, 1, 0);
            for (int day = 4; day >= 1; day--) {
                doc.equal("at the age " + ship.lot(0, 3), ship.lot(0, 4), day);
                ship.pass(1);
            }
        });
        doc.says("nothing is eaten", () -> {
            ShipStores ship = Ships.selling(0, Ships.lives(9, 9, 9));
            ship.buy(0, 1, 0);
            Checks.serve(ship, "0*9");
            doc.equal("it will be eaten at once", ship.lot(0, 4), 10);
        });
    }

    private void placeOfALot() {
        doc.says("those with fewer days left first, of several the lowest number", () -> {
            ShipStores ship = Ships.selling(0, Ships.lives(10, 20, 10), Ships.lives(1, 1, 1));
            int[] kinds = {0, 0, 1, 0, 0, 1, 0};
            int[] stores = {1, 0, 0, 2, 1, 1, 0};
            for (int lot = 0; lot < kinds.length; lot++) {
                ship.buy(kinds[lot], 1, stores[lot]);
            }
            doc.row("their places", lot -> ship.lot(lot, 5), 3, 0, 0, 1, 4, 1, 2);
            ship.warm(1, 30);
            doc.row("their places with 1 warm", lot -> ship.lot(lot, 5), 0, 1, 0, 2, 3, 1, 4);
            ship.warm(1, 9);
            doc.row("their places with 1 warm for 9 days", lot -> ship.lot(lot, 5), 3, 0, 0, 1, 4, 1, 2);
        });
        doc.says("its place in the order in which lots of its kind are eaten, from 0", () -> {
            ShipStores one = Ships.withLots(1);
            doc.equal("the only one", one.lot(0, 5), 0);
            ShipStores ship = Ships.withLots(30);
            doc.equal("the first of 30", ship.lot(0, 5), 0);
            doc.equal("the last of 30", ship.lot(29, 5), 29);
            ship.move(29, 10, 0);
            doc.equal("now it is the first", ship.lot(29, 5), 0);
            doc.equal("and the first is the second", ship.lot(0, 5), 1);
        });
    }

    private void lotThrows() {
        doc.says("Throws `IndexOutOfBoundsException` if there is no such lot", () -> {
            for (int lot : Sentences.outside(0, 2)) {
                doc.refused("lot(" + lot + ", 0)", () -> Ships.withLots(3), INDEX, ship -> ship.lot(lot, 0));
            }
            doc.refused("without lots", Ships::inPort, INDEX, ship -> ship.lot(0, 0));
            doc.refused("lot(30, 0)", Ships::full, INDEX, ship -> ship.lot(30, 0));
            ShipStores ship = Ships.withLots(3);
            ship.discard(0, 10);
            doc.thrown("the number that the last one had", ship, INDEX, it -> it.lot(2, 0));
        });
        doc.says("Throws `IllegalArgumentException` if what is not 0 to 5", () -> {
            for (int what : Sentences.outside(0, 5)) {
                doc.refused("lot(0, " + what + ")", () -> Ships.withLots(1), ARGUMENT, ship -> ship.lot(0, what));
            }
        });
        doc.changesNothing(() -> {
            doc.refused("no such lot", Ships::full, INDEX, ship -> ship.lot(30, 4));
            doc.refused("no such property", Ships::full, ARGUMENT, ship -> ship.lot(29, 6));
        });
        doc.firstNamed(() -> {
            doc.refused("lot and what", Ships::full, INDEX, ship -> ship.lot(30, 6));
            doc.refused("lot and what below 0", Ships::full, INDEX, ship -> ship.lot(-1, -1));
        });
    }

    private void store() {
        doc.promise(20);
        doc.says("Returns a property of a store.", () -> doc.looksOnly("a store", Ships::full, ship -> ship.store(2, 1)));
        doc.says("`store`: the store", () -> {
            ShipStores ship = Ships.inPort();
            for (int store = 0; store <= 2; store++) {
                ship.setRoom(store, 500 * store);
            }
            doc.row("rooms", store -> ship.store(store, 0), 0, 500, 1000);
        });
        doc.says("`what`: 0: room; 1: rations in it; 2: lots in it; 3: warm days", () -> {
            ShipStores ship = Ships.inPort();
            ship.setRoom(2, 5000);
            ship.warm(2, 30);
            doc.row("an empty store", what -> ship.store(2, what), 5000, 0, 0, 30);
            ship.warm(2, 0);
            ship.buy(0, 2000, 2);
            ship.buy(0, 2000, 2);
            ship.buy(1, 1000, 2);
            ship.buy(1, 1, 1);
            doc.row("a full one", what -> ship.store(2, what), 5000, 5000, 3, 0);
            doc.row("one with a ration", what -> ship.store(1, what), 1000, 1, 1, 0);
        });
        doc.says("Returns the property.", () -> {
            ShipStores ship = Ships.withLots(30);
            doc.row("all lots", what -> ship.store(2, what), 1000, 300, 30, 0);
            doc.row("none", what -> ship.store(0, what), 1000, 0, 0, 0);
        });
        doc.says("Throws `IndexOutOfBoundsException` if there is no such store", () -> {
            for (int store : Sentences.outside(0, 2)) {
                doc.refused("store(" + store + ", 0)", Ships::inPort, INDEX, ship -> ship.store(store, 0));
            }
        });
        doc.says("Throws `IllegalArgumentException` if what is not 0 to 3", () -> {
            for (int what : Sentences.outside(0, 3)) {
                doc.refused("store(0, " + what + ")", Ships::inPort, ARGUMENT, ship -> ship.store(0, what));
            }
        });
        doc.changesNothing(() -> {
            doc.refused("no such store", Ships::full, INDEX, ship -> ship.store(3, 0));
            doc.refused("no such property", Ships::full, ARGUMENT, ship -> ship.store(2, 4));
        });
        doc.firstNamed(() -> {
            doc.refused("store and what", Ships::full, INDEX, ship -> ship.store(3, 4));
            doc.refused("store and what below 0", Ships::full, INDEX, ship -> ship.store(-1, -1));
        });
    }

    private void kind() {
        doc.promise(21);
        doc.says("Returns a property of a kind.", () -> doc.looksOnly("a kind", Ships::full, ship -> ship.kind(7, 7)));
        doc.says("`kind`: the kind", () -> {
            ShipStores ship = Ships.full();
            for (int kind = 0; kind < 8; kind++) {
                doc.equal("its life", ship.kind(kind, 0), 10 + kind);
            }
        });
        doc.says("`what`: 0 to 2: its life in the store 0 to 2, as it was added; 3: bought; 4: eaten; 5: spoiled; 6: thrown"
            + " away; 7: in lots; 8: short; 9: lots of it", () -> {
                ShipStores ship = Ships.selling(0, Ships.lives(1, 200, 0), Ships.lives(0, 0, 0));
                ship.warm(1, 30);
                ship.warm(2, 30);
                doc.row("with nothing, in the warm", what -> ship.kind(0, what), 1, 200, 0, 0, 0, 0, 0, 0, 0, 0);
                doc.row("without a life", what -> ship.kind(1, what), 0, 0, 0, 0, 0, 0, 0, 0, 0, 0);
                ship.warm(1, 0);
                ship.buy(0, 9, 0);
                ship.buy(0, 6, 1);
                ship.discard(1, 1);
                Checks.serve(ship, "0*2,1*4");
                ship.pass(1);
                doc.row("eaten, spoiled and thrown away", what -> ship.kind(0, what), 1, 200, 0, 15, 2, 7, 1, 5, 0, 1);
                doc.row("short", what -> ship.kind(1, what), 0, 0, 0, 0, 0, 0, 0, 0, 4, 0);
            });
        doc.says("Returns the property.", () -> {
            ShipStores ship = Ships.withLots(30);
            doc.row("30 lots", what -> ship.kind(0, what), 10, 20, 100, 300, 0, 0, 0, 300, 0, 30);
            doc.row("none", what -> ship.kind(1, what), 0, 4, 50, 0, 0, 0, 0, 0, 0, 0);
        });
        doc.says("that spoiled, that were thrown away, and that are in the lots.", () -> {
            ShipStores ship = Ships.full();
            ship.warm(2, 30);
            for (int passed = 0; passed < 7; passed++) {
                for (int kind = 0; kind < 8; kind++) {
                    int sum = ship.kind(kind, 4) + ship.kind(kind, 5) + ship.kind(kind, 6) + ship.kind(kind, 7);
                    doc.equal("kind " + kind + " on the day " + ship.count(0), sum, ship.kind(kind, 3));
                }
                ship.pass(8);
            }
        });
    }

    private void kindThrows() {
        doc.says("Throws `IndexOutOfBoundsException` if there is no such kind", () -> {
            for (int kind : Sentences.outside(0, 1)) {
                doc.refused("kind(" + kind + ", 0)", Ships::inPort, INDEX, ship -> ship.kind(kind, 0));
            }
            doc.refused("without kinds", ShipStores::new, INDEX, ship -> ship.kind(0, 0));
            doc.refused("kind(8, 0)", Ships::full, INDEX, ship -> ship.kind(8, 0));
        });
        doc.says("Throws `IllegalArgumentException` if what is not 0 to 9", () -> {
            for (int what : Sentences.outside(0, 9)) {
                doc.refused("kind(0, " + what + ")", Ships::inPort, ARGUMENT, ship -> ship.kind(0, what));
            }
        });
        doc.changesNothing(() -> {
            doc.refused("no such kind", Ships::full, INDEX, ship -> ship.kind(8, 0));
            doc.refused("no such property", Ships::full, ARGUMENT, ship -> ship.kind(7, 10));
        });
        doc.firstNamed(() -> {
            doc.refused("kind and what", Ships::full, INDEX, ship -> ship.kind(8, 10));
            doc.refused("kind and what below 0", Ships::full, INDEX, ship -> ship.kind(-1, -1));
        });
    }

    private void port() {
        doc.promise(22);
        doc.says("Returns a property of a port.", () -> doc.looksOnly("a port", Ships::full, ship -> ship.port(7, 17)));
        doc.says("`port`: its number", () -> {
            ShipStores ship = Ships.withPorts(8);
            doc.row("days", port -> ship.port(port, 0), 0, 10, 20, 30, 40, 50, 60, 70);
        });
        doc.says("`what`: 0: day; 1: staleness; 10 and more: the price of the kind what - 10", () -> {
            ShipStores ship = Ships.withKinds(8);
            ship.addPort(500, 900);
            for (int kind = 0; kind < 8; kind++) {
                ship.setPrice(0, kind, 93 + kind);
            }
            doc.row("the port", what -> ship.port(0, what), 500, 900);
            doc.row("its prices", kind -> ship.port(0, 10 + kind), 93, 94, 95, 96, 97, 98, 99, 100);
        });
        doc.says("Returns the property.", () -> {
            ShipStores ship = Ships.withKinds(1);
            ship.addPort(0, 0);
            doc.row("the port", what -> ship.port(0, what), 0, 0);
            doc.equal("a price", ship.port(0, 10), 0);
        });
    }

    private void portThrows() {
        doc.says("Throws `IndexOutOfBoundsException` if there is no such port", () -> {
            for (int port : Sentences.outside(0, 2)) {
                doc.refused("port(" + port + ", 0)", () -> Ships.withPorts(3), INDEX, ship -> ship.port(port, 0));
            }
            doc.refused("without ports", () -> Ships.withKinds(8), INDEX, ship -> ship.port(0, 0));
            doc.refused("port(8, 0)", Ships::full, INDEX, ship -> ship.port(8, 0));
        });
        doc.says("Throws `IllegalArgumentException` if what is not 0, 1, or 10 plus the number of a kind that there is", () -> {
            for (int what : new int[] {-1, 2, 3, 8, 9, 12, 17, 18, Integer.MIN_VALUE, Integer.MAX_VALUE}) {
                doc.refused("port(0, " + what + ")", Ships::inPort, ARGUMENT, ship -> ship.port(0, what));
            }
            for (int kinds = 0; kinds <= 8; kinds++) {
                int number = kinds;
                doc.refused("with " + kinds + " kinds", () -> {
                    ShipStores ship = Ships.withKinds(number);
                    ship.addPort(0, 0);
                    return ship;
                }, ARGUMENT, ship -> ship.port(0, 10 + number));
            }
        });
        doc.changesNothing(() -> {
            doc.refused("no such port", Ships::full, INDEX, ship -> ship.port(8, 0));
            doc.refused("no such property", Ships::full, ARGUMENT, ship -> ship.port(7, 18));
        });
        doc.firstNamed(() -> {
            doc.refused("port and what", Ships::full, INDEX, ship -> ship.port(8, 18));
            doc.refused("port and what below 0", Ships::full, INDEX, ship -> ship.port(-1, -1));
            doc.refused("port and a kind that is not", () -> Ships.withKinds(1), INDEX, ship -> ship.port(0, 11));
        });
    }

    private void menu() {
        doc.promise(23);
        doc.says("Returns an item of a menu.", () -> doc.looksOnly("a menu", Ships::full, ship -> ship.menu(9, 3, 2)));
        doc.says("`menu`: its number, from 0", () -> {
            ShipStores ship = Ships.inPort();
            Checks.serve(ship, "0*1;0*2;0*3;0*4;0*5;0*6;0*7;0*8;0*9;1*1");
            doc.row("amounts", menu -> ship.menu(menu, 0, 1), 1, 2, 3, 4, 5, 6, 7, 8, 9, 1);
        });
        doc.says("`item`: the item, from 0", () -> {
            ShipStores ship = Ships.withMenus("0*1,0*2,0*3,0*4");
            doc.row("amounts", item -> ship.menu(0, item, 1), 1, 2, 3, 4);
        });
        doc.says("`what`: 0: kind; 1: amount for a head; 2: substitute, NONE if it has none", () -> {
            ShipStores ship = Ships.withKinds(8);
            Checks.serve(ship, "0*1/7,7*9/0,1*5");
            doc.row("the least", what -> ship.menu(0, 0, what), 0, 1, 7);
            doc.row("the most", what -> ship.menu(0, 1, what), 7, 9, 0);
            doc.row("without a substitute", what -> ship.menu(0, 2, what), 1, 5, NONE);
        });
        doc.says("Returns the property; NONE if the menu has no such item.", () -> {
            ShipStores ship = Ships.withMenus("0*1/1,1*1/0,0*1/1,1*1/0;-;0*1/1;0*1,1*1,0*1");
            int[] items = {4, 0, 1, 3};
            for (int menu = 0; menu < items.length; menu++) {
                for (int item = 0; item <= 3; item++) {
                    int[] place = {menu, item};
                    if (item < items[menu]) {
                        doc.equal("an item", ship.menu(menu, item, 0), item % 2);
                    } else {
                        doc.row("no item", what -> ship.menu(place[0], place[1], what), NONE, NONE, NONE);
                    }
                }
            }
        });
    }

    private void menuThrows() {
        doc.says("Throws `IndexOutOfBoundsException` if there is no such menu, or item is not 0 to 3", () -> {
            for (int menu : Sentences.outside(0, 1)) {
                doc.refused("menu(" + menu + ", 0, 0)", () -> Ships.withMenus("0*1;-"), INDEX, ship -> ship.menu(menu, 0, 0));
            }
            for (int item : Sentences.outside(0, 3)) {
                doc.refused("menu(0, " + item + ", 0)", () -> Ships.withMenus("0*1;-"), INDEX,
                    ship -> ship.menu(0, item, 0));
                doc.refused("menu(1, " + item + ", 0)", () -> Ships.withMenus("-;0*1,0*1,0*1,0*1;0*1"), INDEX,
                    ship -> ship.menu(1, item, 0));
            }
            doc.refused("of a new ship", ShipStores::new, INDEX, ship -> ship.menu(1, 0, 0));
            doc.refused("menu(10, 0, 0)", Ships::full, INDEX, ship -> ship.menu(10, 0, 0));
        });
        doc.says("Throws `IllegalArgumentException` if what is not 0 to 2", () -> {
            for (int what : Sentences.outside(0, 2)) {
                doc.refused("menu(0, 0, " + what + ")", () -> Ships.withMenus("0*1"), ARGUMENT,
                    ship -> ship.menu(0, 0, what));
                doc.refused("of no item: menu(0, 3, " + what + ")", ShipStores::new, ARGUMENT,
                    ship -> ship.menu(0, 3, what));
            }
        });
        doc.changesNothing(() -> {
            doc.refused("no such menu", Ships::full, INDEX, ship -> ship.menu(10, 0, 0));
            doc.refused("no such item", Ships::full, INDEX, ship -> ship.menu(0, 4, 0));
            doc.refused("no such property", Ships::full, ARGUMENT, ship -> ship.menu(0, 0, 3));
        });
        doc.firstNamed(() -> {
            doc.refused("menu and what", Ships::full, INDEX, ship -> ship.menu(10, 0, 3));
            doc.refused("item and what", Ships::full, INDEX, ship -> ship.menu(0, 4, 3));
            doc.refused("menu, item and what", Ships::full, INDEX, ship -> ship.menu(-1, -1, -1));
        });
    }

    private void count() {
        doc.promise(24);
        doc.says("Returns a number.", () -> doc.looksOnly("the rations", Ships::full, ship -> ship.count(12)));
        doc.says("`what`: 0: day; 1: kinds; 2: lots; 3: ports; 4: menus; 5: heads; 6: coins in the purse; 7: coins spent for"
            + " food so far; 8: hungry days so far; 9: saved states; 10: the port in which the ship is, NONE if it is in none;"
            + " 11: the next port, NONE if there is none; 12: rations in all lots", () -> {
                doc.row("of a new ship", new ShipStores()::count, 0, 0, 0, 0, 1, 10, 10000, 0, 0, 0, NONE, NONE, 0);
                int spent = 0;
                for (int lot = 0; lot < 30; lot++) {
                    spent += (10 + lot) * (1 + lot % 8);
                }
                doc.row("of a full one", Ships.full()::count, 0, 8, 30, 8, 10, 10, 10000 - spent, spent, 0, 6, 0, 1, 735);
            });
        doc.says("Returns the number.", () -> {
            ShipStores ship = Ships.full();
            ship.setCrew(100);
            ship.pass(60);
            ship.pass(11);
            doc.equal("the day", ship.count(0), 71);
            doc.equal("no lots", ship.count(2), 0);
            doc.equal("hungry days, of which every tenth but one has an empty menu", ship.count(8), 71 - 7);
            doc.equal("in no port", ship.count(10), NONE);
            doc.equal("no next port", ship.count(11), NONE);
            doc.equal("no rations", ship.count(12), 0);
        });
        doc.says("7: coins spent for food so far", () -> {
            ShipStores ship = Ships.inPort();
            ship.pay(-5000);
            doc.equal("what is taken out is not spent", ship.count(7), 0);
            ship.buy(0, 1, 0);
            ship.pay(1);
            ship.discard(0, 1);
            doc.equal("what is thrown away was spent", ship.count(7), 1);
            doc.equal("the purse", ship.count(6), 5000);
        });
    }

    private void countOfPorts() {
        doc.says("The ship is in a port if the day is its day.", () -> {
            ShipStores ship = new ShipStores();
            ship.addPort(1, 0);
            ship.addPort(3, 0);
            int[] due = {NONE, 0, NONE, 1, NONE};
            for (int port : due) {
                doc.equal("on the day " + ship.count(0), ship.count(10), port);
                ship.pass(1);
            }
            ShipStores first = Ships.withPorts(1);
            doc.equal("a port on the day 0", first.count(10), 0);
            first.removePort(0);
            doc.equal("it is gone", first.count(10), NONE);
        });
        doc.says("The next port is the one with the least day that is after the present day.", () -> {
            ShipStores ship = new ShipStores();
            ship.addPort(0, 0);
            ship.addPort(1, 0);
            ship.addPort(3, 0);
            int[] due = {1, 2, 2, NONE, NONE};
            for (int port : due) {
                doc.equal("on the day " + ship.count(0), ship.count(11), port);
                ship.pass(1);
            }
            ship.addPort(500, 0);
            doc.equal("the last day for a port", ship.count(11), 3);
            doc.equal("without ports", new ShipStores().count(11), NONE);
        });
        doc.says("The next port is the one with the least day", () -> {
            ShipStores ship = new ShipStores();
            ship.addPort(500, 0);
            for (int days = 0; days < 480; days += 60) {
                ship.pass(60);
            }
            ship.pass(19);
            doc.equal("on the day 499", ship.count(11), 0);
            ship.pass(1);
            doc.equal("on the day 500", ship.count(11), NONE);
            doc.equal("the ship is there", ship.count(10), 0);
            ship.pass(1);
            doc.equal("on the day 501", ship.count(10), NONE);
        });
    }

    private void countThrows() {
        doc.says("Throws `IllegalArgumentException` if what is not 0 to 12", () -> {
            for (int what : Sentences.outside(0, 12)) {
                doc.refused("count(" + what + ")", Ships::inPort, ARGUMENT, ship -> ship.count(what));
            }
        });
        doc.changesNothing(() -> {
            doc.refused("count(13)", Ships::full, ARGUMENT, ship -> ship.count(13));
            doc.refused("count(-1)", Ships::full, ARGUMENT, ship -> ship.count(-1));
        });
    }
}
