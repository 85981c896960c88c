/** The boundary cases of the promises 1 to 9. */
final class BoundariesOfKindsStoresPorts {
    private static final Class<IllegalArgumentException> ARGUMENT = Sentences.ARGUMENT;
    private static final Class<IllegalStateException> STATE = Sentences.STATE;
    private static final Class<IndexOutOfBoundsException> INDEX = Sentences.INDEX;
    private static final int NONE = ShipStores.NONE;

    private final Sentences doc;

    BoundariesOfKindsStoresPorts(Sentences doc) {
        this.doc = doc;
    }

    void test() {
        aNewObject();
        atFirst();
        addKind();
        addKindIsRefused();
        setRoom();
        setRoomIsRefused();
        warm();
        warmIsRefused();
        setCrew();
        pay();
        addPort();
        addPortIsRefused();
        removePort();
        setPrice();
        setPriceIsRefused();
    }

    private void aNewObject() {
        doc.promise(1);
        doc.says("Creates a ship on the day 0, as told above, without kinds, lots and ports; the buffer is empty.", () -> {
            ShipStores ship = new ShipStores();
            doc.row("count", ship::count, 0, 0, 0, 0, 1, 10, 10000, 0, 0, 0, NONE, NONE, 0);
            doc.thrown("kind(0, 0)", ship, INDEX, it -> it.kind(0, 0));
            doc.thrown("lot(0, 0)", ship, INDEX, it -> it.lot(0, 0));
            doc.thrown("port(0, 0)", ship, INDEX, it -> it.port(0, 0));
            doc.equal("the buffer's length", ship.clearBuffer(), 0);
        });
        doc.says("Creates a ship on the day 0, as told above", () -> {
            ShipStores first = Ships.full();
            ShipStores second = new ShipStores();
            doc.row("count of another ship", second::count, 0, 0, 0, 0, 1, 10, 10000, 0, 0, 0, NONE, NONE, 0);
            second.addKind(7, 7, 7);
            second.setCrew(1);
            doc.equal("the kinds of the first ship", first.count(1), 8);
            doc.equal("the crew of the first ship", first.count(5), 10);
            doc.equal("the buffer of the first ship", first.clearBuffer(), 60);
        });
        doc.says("An object is used for at most 512 calls after it has been made; what later calls answer is free.", () -> {
            ShipStores ship = new ShipStores();
            for (int call = 1; call <= 511; call++) {
                ship.pass(60);
            }
            doc.equal("the day, in the call 512", ship.count(0), 511 * 60);
        });
        doc.says("An object is used for at most 512 calls after it has been made", () -> {
            ShipStores ship = Ships.inPort();
            for (int pair = 0; pair < 253; pair++) {
                ship.append('-');
                ship.clearBuffer();
            }
            doc.equal("undo, in the call 512", ship.undo(), 4);
        });
        doc.says("`NONE = -1`: There is nothing to return.", () -> doc.equal("NONE", NONE, -1));
    }

    private void atFirst() {
        doc.says("The stores are 0 (dry), 1 (cool) and 2 (frozen).", () -> {
            ShipStores ship = new ShipStores();
            for (int store = 0; store <= 2; store++) {
                int number = store;
                doc.row("store " + store, what -> ship.store(number, what), 1000, 0, 0, 0);
            }
            doc.thrown("store(3, 0)", ship, INDEX, it -> it.store(3, 0));
        });
        doc.says("A store has a room, 0 to 5000 rations, at first 1000", () -> {
            for (int store = 0; store <= 2; store++) {
                doc.equal("the room of " + store, new ShipStores().store(store, 0), 1000);
            }
        });
        doc.says("The stores 1 and 2 can be warm for a number of days, at first 0", () -> {
            doc.equal("warm(1, 3)", new ShipStores().warm(1, 3), 0);
            doc.equal("warm(2, 3)", new ShipStores().warm(2, 3), 0);
        });
        doc.says("The crew has 1 to 100 heads, at first 10.", () ->
            doc.equal("setCrew(1)", new ShipStores().setCrew(1), 10));
        doc.says("At first there is one menu without items.", () -> {
            ShipStores ship = new ShipStores();
            doc.equal("menus", ship.count(4), 1);
            for (int item = 0; item <= 3; item++) {
                int number = item;
                doc.row("menu(0, " + item, what -> ship.menu(0, number, what), NONE, NONE, NONE);
            }
            doc.thrown("menu(1, 0, 0)", ship, INDEX, it -> it.menu(1, 0, 0));
        });
        doc.says("Days are numbered from 0; the first day is the day 0.", () -> {
            ShipStores ship = new ShipStores();
            doc.equal("the first day", ship.count(0), 0);
            ship.pass(1);
            doc.equal("the second day", ship.count(0), 1);
        });
        doc.says("The purse has 0 to 1000000 coins, at first 10000.", () ->
            doc.equal("pay(0)", new ShipStores().pay(0), 10000));
    }

    private void addKind() {
        doc.promise(2);
        doc.says("There are at most 8 kinds of food, numbered from 0.", () -> {
            ShipStores ship = new ShipStores();
            for (int kind = 0; kind < 8; kind++) {
                doc.equal("addKind", ship.addKind(kind, kind + 1, kind + 2), kind);
            }
            doc.equal("kinds", ship.count(1), 8);
            for (int kind = 0; kind < 8; kind++) {
                int number = kind;
                doc.row("kind " + kind, what -> ship.kind(number, what), kind, kind + 1, kind + 2);
            }
        });
        doc.says("A kind has a life for each of the three stores: the number of days that it keeps there, 0 to 200; with 0 it"
            + " is not kept there.", () -> {
                ShipStores ship = Ships.selling(0, Ships.lives(0, 1, 200), Ships.lives(0, 0, 0));
                doc.equal("not kept in 0", ship.why(0, 1, 0), 3);
                doc.equal("a lot in 1", ship.buy(0, 1, 1), 0);
                doc.equal("a lot in 2", ship.buy(0, 1, 2), 1);
                doc.equal("it keeps for a day", ship.lot(0, 4), 1);
                doc.equal("it keeps for 200 days", ship.lot(1, 4), 200);
                for (int store = 0; store <= 2; store++) {
                    doc.equal("kept nowhere", ship.why(1, 1, store), 3);
                }
            });
        doc.says("Adds a kind of food.", () -> {
            ShipStores ship = Ships.withPorts(8);
            doc.equal("addKind(0, 0, 0)", ship.addKind(0, 0, 0), 0);
            doc.row("the kind", what -> ship.kind(0, what), 0, 0, 0, 0, 0, 0, 0, 0, 0, 0);
            for (int port = 0; port < 8; port++) {
                doc.equal("its price in " + port, ship.port(port, 10), 0);
            }
        });
        doc.says("Undoable.", () -> {
            doc.undone("the first", ShipStores::new, ship -> ship.addKind(1, 2, 3));
            doc.undone("another", Ships::inPort, ship -> ship.addKind(1, 2, 3));
            ShipStores ship = Ships.withKinds(8);
            ship.undo();
            doc.equal("the eighth once more", ship.addKind(4, 5, 6), 7);
        });
        doc.says("Returns its number.", () -> {
            doc.equal("the first", new ShipStores().addKind(1, 1, 1), 0);
            doc.equal("the last", Ships.withKinds(7).addKind(1, 1, 1), 7);
        });
        String[] bullets = {"`dry`: its life in store 0, 0 to 200", "`cool`: its life in store 1, 0 to 200",
            "`frozen`: its life in store 2, 0 to 200"};
        for (int store = 0; store <= 2; store++) {
            int its = store;
            doc.says(bullets[store], () -> {
                for (int life : new int[] {0, 1, 199, 200}) {
                    ShipStores ship = new ShipStores();
                    doc.equal("a life of " + life, addKindWith(ship, its, life), 0);
                    doc.row("kind 0", what -> ship.kind(0, what), its == 0 ? life : 50, its == 1 ? life : 50,
                        its == 2 ? life : 50);
                }
            });
        }
    }

    private static int addKindWith(ShipStores ship, int store, int life) {
        return ship.addKind(store == 0 ? life : 50, store == 1 ? life : 50, store == 2 ? life : 50);
    }

    private void addKindIsRefused() {
        doc.says("Throws `IllegalArgumentException` if a life is out of range", () -> {
            for (int life : Sentences.outside(0, 200)) {
                for (int store = 0; store <= 2; store++) {
                    int its = store;
                    doc.refused("a life of " + life + " in " + store, Ships::inPort, ARGUMENT,
                        ship -> addKindWith(ship, its, life));
                }
            }
        });
        doc.says("Throws `IllegalStateException` if there are 8 kinds", () -> {
            doc.refused("a ninth kind", () -> Ships.withKinds(8), STATE, ship -> ship.addKind(1, 1, 1));
            doc.equal("an eighth kind", Ships.withKinds(7).addKind(1, 1, 1), 7);
        });
        doc.changesNothing(() -> {
            doc.refused("wrong lives", Ships::full, ARGUMENT, ship -> ship.addKind(0, 200, 201));
            doc.refused("a ninth kind", Ships::full, STATE, ship -> ship.addKind(0, 0, 0));
        });
        doc.firstNamed(() -> {
            for (int store = 0; store <= 2; store++) {
                int its = store;
                doc.refused("a ninth kind with a wrong life", Ships::full, ARGUMENT, ship -> addKindWith(ship, its, -1));
            }
        });
    }

    private void setRoom() {
        doc.promise(3);
        doc.says("A store has a room, 0 to 5000 rations, at first 1000; the rations of all lots in it can be fewer or as"
            + " many.", () -> {
                ShipStores ship = Ships.withLots(3);
                doc.equal("more than the rations", ship.setRoom(2, 31), 1000);
                doc.equal("as many", ship.setRoom(2, 30), 31);
                doc.equal("rations in it", ship.store(2, 1), 30);
            });
        doc.says("Changes the room of a store.", () -> {
            for (int store = 0; store <= 2; store++) {
                ShipStores ship = new ShipStores();
                ship.setRoom(store, 7);
                for (int other = 0; other <= 2; other++) {
                    doc.equal("the room of " + other, ship.store(other, 0), other == store ? 7 : 1000);
                }
            }
        });
        doc.says("Undoable.", () -> {
            doc.undone("setRoom(0, 0)", Ships::inPort, ship -> ship.setRoom(0, 0));
            doc.undone("the room that it has", Ships::inPort, ship -> ship.setRoom(2, 1000));
        });
        doc.says("`store`: the store", () -> {
            for (int store = 0; store <= 2; store++) {
                doc.equal("setRoom(" + store + ", 1)", new ShipStores().setRoom(store, 1), 1000);
            }
        });
        doc.says("`room`: 0 to 5000", () -> {
            for (int room : new int[] {0, 1, 4999, 5000}) {
                ShipStores ship = new ShipStores();
                ship.setRoom(1, room);
                doc.equal("a room of " + room, ship.store(1, 0), room);
            }
        });
        doc.says("Returns the previous room.", () -> {
            ShipStores ship = new ShipStores();
            doc.equal("after 1000", ship.setRoom(1, 0), 1000);
            doc.equal("after 0", ship.setRoom(1, 5000), 0);
            doc.equal("after 5000", ship.setRoom(1, 5000), 5000);
            doc.equal("of another store", ship.setRoom(2, 5000), 1000);
        });
    }

    private void setRoomIsRefused() {
        doc.says("Throws `IndexOutOfBoundsException` if there is no such store", () -> {
            for (int store : Sentences.outside(0, 2)) {
                doc.refused("setRoom(" + store + ", 1)", Ships::inPort, INDEX, ship -> ship.setRoom(store, 1));
            }
        });
        doc.says("Throws `IllegalArgumentException` if room is out of range", () -> {
            for (int room : Sentences.outside(0, 5000)) {
                doc.refused("setRoom(0, " + room + ")", Ships::inPort, ARGUMENT, ship -> ship.setRoom(0, room));
            }
        });
        doc.says("Throws `IllegalStateException` if the lots in the store have more rations than that", () -> {
            doc.refused("a ration too many", () -> Ships.withLots(3), STATE, ship -> ship.setRoom(2, 29));
            doc.refused("no room", () -> Ships.withLots(3), STATE, ship -> ship.setRoom(2, 0));
            doc.equal("no room where nothing is", Ships.withLots(3).setRoom(1, 0), 1000);
            ShipStores ship = Ships.inPort();
            ship.buy(0, 4, 1);
            ship.buy(1, 5, 1);
            doc.thrown("less than the lots of both kinds have", ship, STATE, it -> it.setRoom(1, 8));
            doc.equal("as much as they have", ship.setRoom(1, 9), 1000);
        });
        doc.changesNothing(() -> {
            doc.refused("no such store", Ships::full, INDEX, ship -> ship.setRoom(3, 1));
            doc.refused("no such room", Ships::full, ARGUMENT, ship -> ship.setRoom(2, 5001));
            doc.refused("too little room", Ships::full, STATE, ship -> ship.setRoom(2, 1));
        });
        doc.firstNamed(() -> {
            doc.refused("store and room", Ships::full, INDEX, ship -> ship.setRoom(3, 5001));
            doc.refused("store and room below 0", Ships::full, INDEX, ship -> ship.setRoom(-1, -1));
            doc.refused("a room that is wrong and too little", Ships::full, ARGUMENT, ship -> ship.setRoom(0, -1));
        });
    }

    private void warm() {
        doc.promise(4);
        doc.says("The stores 1 and 2 can be warm for a number of days, at first 0; as long as this number is above 0, the"
            + " store is warm.", () -> {
                for (int store = 1; store <= 2; store++) {
                    ShipStores ship = Ships.selling(0, Ships.lives(9, 99, 99));
                    ship.buy(0, 1, store);
                    ship.warm(store, 1);
                    doc.equal("warm for a day", ship.lot(0, 4), 1 + (1000 - 111 + 9) / 10);
                    doc.equal("the other store is the best", ship.bestStore(0), 3 - store);
                    ship.pass(1);
                    doc.equal("aged in the warm", ship.lot(0, 3), 111);
                    doc.equal("no longer warm", ship.store(store, 3), 0);
                    doc.equal("both are the best", ship.bestStore(0), 1);
                    ship.pass(1);
                    doc.equal("aged in the cold", ship.lot(0, 3), 121);
                }
            });
        doc.says("The life in a store that is warm is the life of the kind in store 0.", () -> {
            ShipStores ship = Ships.selling(0, Ships.lives(200, 4, 50), Ships.lives(0, 4, 50));
            ship.warm(1, 1);
            ship.warm(2, 1);
            doc.equal("all are alike", ship.bestStore(0), 0);
            doc.equal("no life", ship.bestStore(1), NONE);
            doc.equal("refused for its life", ship.why(1, 1, 2), 3);
            ship.buy(0, 1, 1);
            ship.pass(1);
            doc.equal("it may be longer than that in the cold", ship.lot(0, 3), 5);
        });
        doc.says("Sets for how many days, from now on, a store is warm.", () -> {
            ShipStores ship = new ShipStores();
            ship.warm(1, 30);
            ship.pass(29);
            doc.equal("a day is left", ship.store(1, 3), 1);
            doc.equal("it is set, not added", ship.warm(1, 2), 1);
            doc.equal("warm days", ship.store(1, 3), 2);
            doc.equal("the other store", ship.store(2, 3), 0);
            doc.equal("no longer warm at once", ship.warm(1, 0), 2);
            doc.equal("no warm days", ship.store(1, 3), 0);
        });
        doc.says("Undoable.", () -> {
            doc.undone("warm(1, 30)", Ships::inPort, ship -> ship.warm(1, 30));
            doc.undone("the days that it has", Ships::inPort, ship -> ship.warm(2, 0));
        });
        doc.says("`store`: 1 or 2", () -> {
            doc.equal("warm(1, 1)", new ShipStores().warm(1, 1), 0);
            doc.equal("warm(2, 1)", new ShipStores().warm(2, 1), 0);
        });
        doc.says("`days`: 0 to 30", () -> {
            for (int days : new int[] {0, 1, 29, 30}) {
                ShipStores ship = new ShipStores();
                ship.warm(2, days);
                doc.equal("warm for " + days, ship.store(2, 3), days);
            }
        });
        doc.says("Returns the previous number of days.", () -> {
            ShipStores ship = new ShipStores();
            doc.equal("at first", ship.warm(2, 30), 0);
            doc.equal("as it was set", ship.warm(2, 2), 30);
            ship.pass(1);
            doc.equal("a day later", ship.warm(2, 5), 1);
            ship.pass(6);
            doc.equal("long after", ship.warm(2, 5), 0);
            doc.equal("of the other store", ship.warm(1, 5), 0);
        });
    }

    private void warmIsRefused() {
        doc.says("Throws `IndexOutOfBoundsException` if store is not 1 or 2", () -> {
            for (int store : Sentences.outside(1, 2)) {
                doc.refused("warm(" + store + ", 1)", Ships::inPort, INDEX, ship -> ship.warm(store, 1));
            }
            doc.refused("warm(-1, 1)", Ships::inPort, INDEX, ship -> ship.warm(-1, 1));
            doc.refused("warm(0, 0)", Ships::inPort, INDEX, ship -> ship.warm(0, 0));
        });
        doc.says("Throws `IllegalArgumentException` if days is out of range", () -> {
            for (int days : Sentences.outside(0, 30)) {
                doc.refused("warm(1, " + days + ")", Ships::inPort, ARGUMENT, ship -> ship.warm(1, days));
                doc.refused("warm(2, " + days + ")", Ships::inPort, ARGUMENT, ship -> ship.warm(2, days));
            }
        });
        doc.changesNothing(() -> {
            doc.refused("the dry store", Ships::full, INDEX, ship -> ship.warm(0, 1));
            doc.refused("too long", Ships::full, ARGUMENT, ship -> ship.warm(1, 31));
        });
        doc.firstNamed(() -> {
            doc.refused("store 0 and days", Ships::full, INDEX, ship -> ship.warm(0, 31));
            doc.refused("store 3 and days", Ships::full, INDEX, ship -> ship.warm(3, -1));
        });
    }

    private void setCrew() {
        doc.promise(5);
        doc.says("The crew has 1 to 100 heads, at first 10.", () -> {
            ShipStores ship = new ShipStores();
            doc.equal("at first", ship.count(5), 10);
            ship.setCrew(1);
            doc.equal("the least", ship.count(5), 1);
            ship.setCrew(100);
            doc.equal("the most", ship.count(5), 100);
        });
        doc.says("Changes the number of heads of the crew.", () -> {
            ShipStores ship = Ships.selling(0, Ships.lives(9, 9, 9));
            ship.buy(0, 1000, 0);
            Checks.serve(ship, "0*9");
            ship.setCrew(100);
            ship.pass(1);
            doc.equal("they eat", ship.kind(0, 4), 900);
        });
        doc.says("Undoable.", () -> {
            doc.undone("setCrew(100)", Ships::inPort, ship -> ship.setCrew(100));
            doc.undone("the heads that it has", Ships::inPort, ship -> ship.setCrew(10));
        });
        doc.says("`heads`: 1 to 100", () -> {
            for (int heads : new int[] {1, 2, 99, 100}) {
                doc.equal("setCrew(" + heads + ")", new ShipStores().setCrew(heads), 10);
            }
        });
        doc.says("Returns the previous number.", () -> {
            ShipStores ship = new ShipStores();
            doc.equal("at first", ship.setCrew(100), 10);
            doc.equal("the most", ship.setCrew(1), 100);
            doc.equal("the least", ship.setCrew(1), 1);
        });
        doc.says("Throws `IllegalArgumentException` if heads is out of range", () -> {
            for (int heads : Sentences.outside(1, 100)) {
                doc.refused("setCrew(" + heads + ")", Ships::inPort, ARGUMENT, ship -> ship.setCrew(heads));
            }
            doc.refused("setCrew(-1)", Ships::inPort, ARGUMENT, ship -> ship.setCrew(-1));
        });
        doc.changesNothing(() -> {
            doc.refused("no heads", Ships::full, ARGUMENT, ship -> ship.setCrew(0));
            doc.refused("too many heads", Ships::full, ARGUMENT, ship -> ship.setCrew(101));
        });
    }

    private void pay() {
        doc.promise(6);
        doc.says("The purse has 0 to 1000000 coins, at first 10000.", () -> {
            ShipStores ship = new ShipStores();
            doc.equal("pay(-10000)", ship.pay(-10000), 0);
            doc.equal("pay(1000000)", ship.pay(1000000), 1000000);
            doc.equal("pay(-1000000)", ship.pay(-1000000), 0);
        });
        doc.says("Puts coins into the purse, or takes them out.", () -> {
            ShipStores ship = new ShipStores();
            doc.equal("one in", ship.pay(1), 10001);
            doc.equal("one out", ship.pay(-1), 10000);
            doc.equal("none", ship.pay(0), 10000);
            doc.equal("nothing was spent for food", ship.count(7), 0);
        });
        doc.says("Undoable.", () -> {
            doc.undone("pay(990000)", Ships::inPort, ship -> ship.pay(990000));
            doc.undone("pay(0)", Ships::inPort, ship -> ship.pay(0));
        });
        doc.says("`coins`: how many, taken out if negative", () -> {
            doc.equal("all but one", new ShipStores().pay(-9999), 1);
            doc.equal("all", new ShipStores().pay(-10000), 0);
        });
        doc.says("Returns what the purse has then.", () -> {
            doc.equal("one less than the most", new ShipStores().pay(989999), 999999);
            doc.equal("the most", new ShipStores().pay(990000), 1000000);
        });
        doc.says("Throws `IllegalArgumentException` if the purse would have less than 0 or more than 1000000 coins", () -> {
            for (int coins : new int[] {-10001, 990001, -2000000, 1000001, Integer.MIN_VALUE, Integer.MAX_VALUE}) {
                doc.refused("pay(" + coins + ")", Ships::inPort, ARGUMENT, ship -> ship.pay(coins));
            }
            ShipStores ship = new ShipStores();
            ship.pay(990000);
            for (int coins : new int[] {1, -1000001, Integer.MIN_VALUE, Integer.MAX_VALUE, Integer.MAX_VALUE - 999999}) {
                doc.thrown("pay(" + coins + ") from 1000000", ship, ARGUMENT, it -> it.pay(coins));
            }
            ship.pay(-1000000);
            for (int coins : new int[] {-1, 1000001, Integer.MIN_VALUE, Integer.MAX_VALUE}) {
                doc.thrown("pay(" + coins + ") from 0", ship, ARGUMENT, it -> it.pay(coins));
            }
        });
        doc.changesNothing(() -> {
            doc.refused("too few", Ships::full, ARGUMENT, ship -> ship.pay(-10001));
            doc.refused("too many", Ships::full, ARGUMENT, ship -> ship.pay(1000000));
        });
    }

    private void addPort() {
        doc.promise(7);
        doc.says("There are at most 8 ports, numbered from 0 in the order of their days, which are all different.", () -> {
            ShipStores ship = new ShipStores();
            int[] days = {250, 500, 0, 251, 249, 499, 1, 100};
            int[] due = {0, 1, 0, 2, 1, 4, 1, 2};
            for (int port = 0; port < days.length; port++) {
                doc.equal("addPort on " + days[port], ship.addPort(days[port], 0), due[port]);
            }
            doc.equal("ports", ship.count(3), 8);
            doc.row("its day", port -> ship.port(port, 0), 0, 1, 100, 249, 250, 251, 499, 500);
        });
        doc.says("A port has a day (0 to 500), a staleness (0 to 900: the age of what is bought there), and a price for each"
            + " kind, 0 to 100; with 0 the kind is not sold there (at first).", () -> {
                ShipStores ship = Ships.withKinds(8);
                ship.addPort(0, 900);
                for (int kind = 0; kind < 8; kind++) {
                    doc.equal("its price of " + kind, ship.port(0, 10 + kind), 0);
                    doc.equal("not sold: " + kind, ship.why(kind, 1, 0), 2);
                }
                ship.setPrice(0, 0, 1);
                ship.buy(0, 1, 0);
                doc.equal("the age", ship.lot(0, 3), 900);
            });
        doc.says("Adds a port without prices; the numbers of ports with later days increase by 1.", () -> {
            ShipStores ship = Ships.withKinds(8);
            for (int port = 0; port < 4; port++) {
                ship.addPort(10 + 20 * port, 2 * port);
                setPrices(ship, port, 10 * port);
            }
            ship.addPort(20, 1);
            doc.row("its staleness", port -> ship.port(port, 1), 0, 1, 2, 4, 6);
            pricesAre(ship, 0, -1, 10, 20, 30);
            ship.addPort(0, 900);
            pricesAre(ship, -1, 0, -1, 10, 20, 30);
            ship.addPort(500, 900);
            pricesAre(ship, -1, 0, -1, 10, 20, 30, -1);
            setPrices(ship, 6, 90);
            ship.removePort(6);
            ship.removePort(5);
            ship.addPort(499, 0);
            ship.addPort(500, 0);
            pricesAre(ship, -1, 0, -1, 10, 20, -1, -1);
        });
        doc.says("Undoable.", () -> {
            doc.undone("the first", ShipStores::new, ship -> ship.addPort(5, 5));
            doc.undone("between", () -> Ships.withPorts(5), ship -> ship.addPort(5, 5));
            doc.undone("the last", Ships::inPort, ship -> ship.addPort(500, 900));
        });
        doc.says("`day`: 0 to 500", () -> {
            for (int day : new int[] {0, 1, 499, 500}) {
                ShipStores ship = new ShipStores();
                ship.addPort(day, 5);
                doc.equal("its day", ship.port(0, 0), day);
            }
            ShipStores late = new ShipStores();
            late.pass(2);
            doc.equal("a day that has passed", late.addPort(1, 5), 0);
        });
        doc.says("`staleness`: 0 to 900", () -> {
            for (int staleness : new int[] {0, 1, 899, 900}) {
                ShipStores ship = new ShipStores();
                ship.addPort(5, staleness);
                doc.equal("its staleness", ship.port(0, 1), staleness);
            }
        });
        doc.says("Returns its number.", () -> {
            doc.equal("the first of all", new ShipStores().addPort(500, 0), 0);
            doc.equal("before the others", Ships.inPortOn(1).addPort(0, 0), 0);
            doc.equal("behind the others", Ships.withPorts(7).addPort(500, 0), 7);
        });
    }

    /** The prices of a port: one more than this for the kind 0, one more for each kind behind it. */
    private static void setPrices(ShipStores ship, int port, int first) {
        for (int kind = 0; kind < 8; kind++) {
            ship.setPrice(port, kind, first + 1 + kind);
        }
    }

    /** The ports have the prices that setPrices gave them, or none where -1 stands. */
    private void pricesAre(ShipStores ship, int... firsts) {
        doc.equal("ports", ship.count(3), firsts.length);
        for (int port = 0; port < firsts.length; port++) {
            for (int kind = 0; kind < 8; kind++) {
                int due = firsts[port] < 0 ? 0 : firsts[port] + 1 + kind;
                doc.equal("the price of " + kind + " in " + port, ship.port(port, 10 + kind), due);
            }
        }
    }

    private void addPortIsRefused() {
        doc.says("Throws `IllegalArgumentException` if an argument is out of range", () -> {
            for (int day : Sentences.outside(0, 500)) {
                doc.refused("addPort(" + day + ", 0)", Ships::inPort, ARGUMENT, ship -> ship.addPort(day, 0));
            }
            for (int staleness : Sentences.outside(0, 900)) {
                doc.refused("addPort(5, " + staleness + ")", Ships::inPort, ARGUMENT, ship -> ship.addPort(5, staleness));
            }
        });
        doc.says("Throws `IllegalStateException` if there are 8 ports, or there is a port with this day", () -> {
            doc.refused("a ninth port", () -> Ships.withPorts(8), STATE, ship -> ship.addPort(5, 0));
            doc.equal("an eighth port", Ships.withPorts(7).addPort(5, 0), 1);
            for (int port = 0; port < 7; port++) {
                int day = 10 * port;
                doc.refused("the day " + day, () -> Ships.withPorts(7), STATE, ship -> ship.addPort(day, 900));
            }
            ShipStores ship = Ships.withPorts(8);
            ship.removePort(3);
            doc.equal("the day of a port that is gone", ship.addPort(30, 0), 3);
        });
        doc.changesNothing(() -> {
            doc.refused("no such day", Ships::full, ARGUMENT, ship -> ship.addPort(501, 0));
            doc.refused("no such staleness", Ships::full, ARGUMENT, ship -> ship.addPort(5, 901));
            doc.refused("a ninth port", Ships::full, STATE, ship -> ship.addPort(5, 0));
        });
        doc.firstNamed(() -> {
            doc.refused("a ninth port on no day", Ships::full, ARGUMENT, ship -> ship.addPort(-1, 0));
            doc.refused("a ninth port, too stale", Ships::full, ARGUMENT, ship -> ship.addPort(5, 901));
            doc.refused("the day of another port, too stale", () -> Ships.withPorts(2), ARGUMENT,
                ship -> ship.addPort(10, -1));
        });
    }

    private void removePort() {
        doc.promise(8);
        doc.says("Removes a port; the numbers of the later ones decrease by 1.", () -> {
            for (int removed = 0; removed < 8; removed++) {
                ShipStores ship = Ships.withKinds(8);
                int[] due = new int[7];
                for (int port = 0; port < 8; port++) {
                    ship.addPort(10 * port, 100 * port);
                    setPrices(ship, port, 9 * port);
                    if (port != removed) {
                        due[port < removed ? port : port - 1] = 9 * port;
                    }
                }
                ship.removePort(removed);
                pricesAre(ship, due);
                for (int port = 0; port < 7; port++) {
                    doc.equal("its day", ship.port(port, 0), due[port] / 9 * 10);
                    doc.equal("its staleness", ship.port(port, 1), due[port] / 9 * 100);
                }
                doc.thrown("the eighth", ship, INDEX, it -> it.port(7, 0));
            }
        });
        doc.says("Removes a port", () -> {
            ShipStores ship = Ships.withPorts(1);
            ship.removePort(0);
            doc.equal("ports", ship.count(3), 0);
            doc.equal("the ship is in none", ship.count(10), NONE);
            doc.equal("there is no next", ship.count(11), NONE);
        });
        doc.says("Undoable.", () -> {
            doc.undone("the only one", Ships::inPort, ship -> ship.removePort(0));
            doc.undone("between", () -> Ships.withPorts(4), ship -> ship.removePort(1));
            doc.undone("the last", () -> Ships.withPorts(4), ship -> ship.removePort(3));
        });
        doc.says("`port`: its number", () -> {
            doc.equal("the first of 8", Ships.withPorts(8).removePort(0), 0);
            doc.equal("the last of 8", Ships.withPorts(8).removePort(7), 70);
        });
        doc.says("Returns its day.", () -> {
            ShipStores ship = new ShipStores();
            ship.addPort(500, 900);
            ship.addPort(0, 900);
            doc.equal("the last", ship.removePort(1), 500);
            doc.equal("the first", ship.removePort(0), 0);
        });
        doc.says("Throws `IndexOutOfBoundsException` if there is no such port", () -> {
            for (int number = 0; number <= 8; number++) {
                int ports = number;
                for (int port : Sentences.outside(0, number - 1)) {
                    doc.refused("removePort(" + port + ") of " + number, () -> Ships.withPorts(ports), INDEX,
                        ship -> ship.removePort(port));
                }
            }
        });
        doc.changesNothing(() -> {
            doc.refused("removePort(8)", Ships::full, INDEX, ship -> ship.removePort(8));
            doc.refused("removePort(-1)", Ships::full, INDEX, ship -> ship.removePort(-1));
        });
    }

    private void setPrice() {
        doc.promise(9);
        doc.says("a price for each kind, 0 to 100; with 0 the kind is not sold there (at first).", () -> {
            ShipStores ship = Ships.withKinds(8);
            ship.addPort(0, 0);
            for (int kind = 0; kind < 8; kind++) {
                doc.equal("not sold at first", ship.why(kind, 1, 0), 2);
                ship.setPrice(0, kind, 1);
                doc.equal("sold for a coin", ship.why(kind, 1, 0), 0);
                ship.setPrice(0, kind, 0);
                doc.equal("no longer sold", ship.why(kind, 1, 0), 2);
            }
        });
        doc.says("Changes a price.", () -> {
            ShipStores ship = Ships.full();
            ship.setPrice(7, 7, 100);
            ship.setPrice(0, 0, 99);
            for (int port = 0; port < 8; port++) {
                for (int kind = 0; kind < 8; kind++) {
                    int due = port == 0 ? kind == 0 ? 99 : 1 + kind : port == 7 && kind == 7 ? 100 : 0;
                    doc.equal("the price of " + kind + " in " + port, ship.port(port, 10 + kind), due);
                }
            }
        });
        doc.says("Undoable.", () -> {
            doc.undone("setPrice(0, 1, 100)", Ships::inPort, ship -> ship.setPrice(0, 1, 100));
            doc.undone("the price that it has", Ships::inPort, ship -> ship.setPrice(0, 1, 1));
        });
        doc.says("`port`: the port", () -> {
            doc.equal("the first", Ships.full().setPrice(0, 0, 5), 1);
            doc.equal("the last", Ships.full().setPrice(7, 0, 5), 0);
        });
        doc.says("`kind`: the kind", () -> {
            doc.equal("the first", Ships.full().setPrice(0, 0, 5), 1);
            doc.equal("the last", Ships.full().setPrice(0, 7, 5), 8);
        });
        doc.says("`price`: 0 to 100", () -> {
            for (int price : new int[] {0, 1, 99, 100}) {
                ShipStores ship = Ships.inPort();
                ship.setPrice(0, 1, price);
                doc.equal("the price", ship.port(0, 11), price);
            }
        });
        doc.says("Returns the previous price.", () -> {
            ShipStores ship = Ships.inPort();
            doc.equal("1", ship.setPrice(0, 0, 100), 1);
            doc.equal("100", ship.setPrice(0, 0, 0), 100);
            doc.equal("0", ship.setPrice(0, 0, 0), 0);
        });
    }

    private void setPriceIsRefused() {
        doc.says("Throws `IndexOutOfBoundsException` if there is no such port or kind", () -> {
            for (int port : Sentences.outside(0, 0)) {
                doc.refused("setPrice(" + port + ", 0, 1)", Ships::inPort, INDEX, ship -> ship.setPrice(port, 0, 1));
            }
            for (int kind : Sentences.outside(0, 1)) {
                doc.refused("setPrice(0, " + kind + ", 1)", Ships::inPort, INDEX, ship -> ship.setPrice(0, kind, 1));
            }
            doc.refused("without ports", () -> Ships.withKinds(8), INDEX, ship -> ship.setPrice(0, 0, 1));
            doc.refused("without kinds", () -> Ships.withPorts(8), INDEX, ship -> ship.setPrice(0, 0, 1));
            doc.refused("setPrice(8, 0, 1)", Ships::full, INDEX, ship -> ship.setPrice(8, 0, 1));
            doc.refused("setPrice(0, 8, 1)", Ships::full, INDEX, ship -> ship.setPrice(0, 8, 1));
        });
        doc.says("Throws `IllegalArgumentException` if price is out of range", () -> {
            for (int price : Sentences.outside(0, 100)) {
                doc.refused("setPrice(0, 1, " + price + ")", Ships::inPort, ARGUMENT, ship -> ship.setPrice(0, 1, price));
            }
        });
        doc.changesNothing(() -> {
            doc.refused("no such kind", Ships::full, INDEX, ship -> ship.setPrice(0, 8, 5));
            doc.refused("no such price", Ships::full, ARGUMENT, ship -> ship.setPrice(0, 0, 101));
        });
        doc.firstNamed(() -> {
            doc.refused("port and price", Ships::full, INDEX, ship -> ship.setPrice(8, 0, 101));
            doc.refused("kind and price", Ships::full, INDEX, ship -> ship.setPrice(0, 8, -1));
            doc.refused("port, kind and price", Ships::full, INDEX, ship -> ship.setPrice(-1, -1, -1));
        });
    }
}
