/** The boundary cases of the promises 25 to 33. */
final class BoundariesOfForecasts {
    private static final Class<IllegalArgumentException> ARGUMENT = Sentences.ARGUMENT;
    private static final Class<IndexOutOfBoundsException> INDEX = Sentences.INDEX;
    private static final int NONE = ShipStores.NONE;
    private static final int[] LONG = Ships.lives(200, 200, 200);
    /** The digest of a new ship, worked out from the document's list and not with the class. */
    private static final long NEW_SHIP = -2365106266409492788L;

    private final Sentences doc;

    BoundariesOfForecasts(Sentences doc) {
        this.doc = doc;
    }

    void test() {
        why();
        whyThrows();
        ifPass();
        ifPassThrows();
        spoils();
        shortIn();
        bestStore();
        leastPurchase();
        leastPurchaseAsks();
        leastPurchaseDays();
        leastPurchaseThrows();
        cheapest();
        meanAge();
        digest();
        digestOfAll();
    }

    private void why() {
        doc.promise(25);
        doc.says("A purchase is refused for the first of these reasons that holds", () -> {
            for (int mended = 0; mended <= 5; mended++) {
                doc.equal("mended: " + mended, BoundariesOfLots.refusing(mended).why(1, 1, 2), mended + 1);
            }
            doc.equal("all is mended", BoundariesOfLots.refusing(6).why(1, 1, 2), 0);
        });
        doc.says("3: the life of the kind in this store is 0 (as the store is now)", () -> {
            ShipStores ship = Ships.inPort();
            doc.equal("no life in 0", ship.why(1, 1, 0), 3);
            ship.warm(1, 1);
            doc.equal("no life in 1 as it is warm", ship.why(1, 1, 1), 3);
            ship.warm(1, 0);
            doc.equal("a life in 1 as it is cold", ship.why(1, 1, 1), 0);
        });
        doc.says("4: the store has too little room left", () -> {
            ShipStores ship = Ships.inPort();
            doc.equal("as much as its room", ship.why(0, 1000, 2), 0);
            doc.equal("more than its room", ship.why(0, 1001, 2), 4);
            ship.buy(0, 999, 2);
            doc.equal("a ration goes in", ship.why(1, 1, 2), 0);
            doc.equal("two do not", ship.why(1, 2, 2), 4);
        });
        doc.says("5: the price times the amount is more than the purse has", () -> {
            ShipStores ship = Ships.inPort();
            ship.setRoom(2, 5000);
            ship.setPrice(0, 0, 100);
            doc.equal("100 for 100 coins", ship.why(0, 100, 2), 0);
            doc.equal("101 for 100 coins", ship.why(0, 101, 2), 5);
            ship.pay(190000);
            doc.equal("2000 for 100 coins", ship.why(0, 2000, 2), 0);
            ship.pay(-1);
            doc.equal("a coin is missing", ship.why(0, 2000, 2), 5);
            ship.pay(-199999);
            doc.equal("no coins", ship.why(1, 1, 2), 5);
        });
        doc.says("Tells why a purchase would be refused.", () -> {
            doc.looksOnly("a refused one", Ships::full, ship -> ship.why(0, 1, 0));
            doc.looksOnly("another one", Ships::inPort, ship -> ship.why(0, 1, 0));
        });
        doc.says("`kind`: the kind", () -> {
            doc.equal("the first", Ships.full().why(0, 1, 0), 6);
            doc.equal("the last", Ships.full().why(7, 1, 0), 6);
        });
        doc.says("`amount`: 1 to 2000", () -> {
            ShipStores ship = Ships.inPort();
            ship.setRoom(0, 5000);
            doc.equal("1", ship.why(0, 1, 0), 0);
            doc.equal("2000", ship.why(0, 2000, 0), 0);
        });
        doc.says("`store`: the store", () -> {
            for (int store = 0; store <= 2; store++) {
                ShipStores ship = Ships.inPort();
                ship.setRoom(store, 0);
                doc.row("reasons", other -> ship.why(0, 1, other), store == 0 ? 4 : 0, store == 1 ? 4 : 0, store == 2 ? 4 : 0);
            }
        });
        doc.says("Returns the reason; 0 if it would not be refused.", () -> {
            doc.equal("not refused", Ships.inPort().why(0, 1, 0), 0);
            doc.equal("in no port", Ships.inPortOn(1).why(0, 1, 0), 1);
        });
    }

    private void whyThrows() {
        doc.says("Throws `IndexOutOfBoundsException` if there is no such kind or store", () -> {
            for (int kind : Sentences.outside(0, 1)) {
                doc.refused("why(" + kind + ", 1, 0)", Ships::inPort, INDEX, ship -> ship.why(kind, 1, 0));
            }
            for (int store : Sentences.outside(0, 2)) {
                doc.refused("why(0, 1, " + store + ")", Ships::inPort, INDEX, ship -> ship.why(0, 1, store));
            }
            doc.refused("without kinds", () -> Ships.withPorts(1), INDEX, ship -> ship.why(0, 1, 0));
        });
        doc.says("Throws `IllegalArgumentException` if amount is out of range", () -> {
            for (int amount : Sentences.outside(1, 2000)) {
                doc.refused("why(0, " + amount + ", 0)", Ships::inPort, ARGUMENT, ship -> ship.why(0, amount, 0));
                doc.refused("in no port", () -> Ships.inPortOn(1), ARGUMENT, ship -> ship.why(0, amount, 0));
            }
            doc.refused("why(0, -1, 0)", Ships::inPort, ARGUMENT, ship -> ship.why(0, -1, 0));
        });
        doc.changesNothing(() -> {
            doc.refused("no such kind", Ships::full, INDEX, ship -> ship.why(8, 1, 0));
            doc.refused("no such amount", Ships::full, ARGUMENT, ship -> ship.why(7, 2001, 0));
        });
        doc.firstNamed(() -> {
            doc.refused("kind and amount", Ships::full, INDEX, ship -> ship.why(8, 0, 0));
            doc.refused("store and amount", Ships::full, INDEX, ship -> ship.why(0, 2001, 3));
        });
    }

    private static int ifPassOf(ShipStores ship, int what) {
        return ship.ifPass(1, what);
    }

    private void ifPass() {
        doc.promise(26);
        doc.says("Tells what some days would bring, if nothing is bought, moved or thrown away.", () -> {
            doc.looksOnly("60 days", Ships::full, ship -> ship.ifPass(60, 1));
            for (int days : new int[] {1, 2, 59, 60}) {
                ShipStores ship = Ships.full();
                int[] told = new int[5];
                for (int what = 0; what <= 4; what++) {
                    told[what] = ship.ifPass(days, what);
                }
                doc.equal("spoiled in " + days, ship.pass(days), told[1]);
                doc.equal("eaten in " + days, sumOf(ship, 4), told[0]);
                doc.equal("short in " + days, sumOf(ship, 8), told[2]);
                doc.equal("hungry days of " + days, ship.count(8), told[3]);
                doc.equal("rations after " + days, ship.count(12), told[4]);
            }
        });
        doc.says("`days`: 1 to 60", () -> {
            ShipStores ship = Ships.selling(0, LONG);
            ship.buy(0, 100, 0);
            Checks.serve(ship, "0*1");
            for (int days : new int[] {1, 2, 59, 60}) {
                doc.equal("eaten in " + days, ship.ifPass(days, 0), days);
                doc.equal("left after " + days, ship.ifPass(days, 4), 100 - days);
            }
        });
        doc.says("`what`: 0: rations eaten in them; 1: rations spoiled; 2: rations short; 3: hungry days; 4: rations in all lots"
            + " then", () -> {
                ShipStores ship = Ships.selling(0, Ships.lives(1, 2, 200), Ships.lives(200, 200, 200));
                doc.row("with nothing", what -> ifPassOf(ship, what), 0, 0, 0, 0, 0);
                ship.buy(0, 9, 0);
                ship.buy(0, 8, 1);
                ship.buy(1, 7, 2);
                Checks.serve(ship, "0*3,1*9;0*9,0*9/1");
                doc.row("a day", what -> ifPassOf(ship, what), 10, 6, 2, 1, 8);
                doc.row("two days", what -> ship.ifPass(2, what), 18, 6, 2 + 10, 2, 0);
            });
        doc.says("Returns the number.", () -> {
            ShipStores ship = Ships.selling(0, Ships.lives(1, 2, 200));
            Checks.serve(ship, "0*5");
            ship.buy(0, 7, 0);
            ship.pass(1);
            doc.row("what was before does not count", what -> ifPassOf(ship, what), 0, 0, 5, 1, 0);
            ship.pass(9);
            doc.row("60 days", what -> ship.ifPass(60, what), 0, 0, 300, 60, 0);
        });
        doc.says("the menu with the number d modulo the number of menus is served.", () -> {
            ShipStores ship = Ships.selling(0, LONG);
            Checks.serve(ship, "-;0*2;-");
            ship.pass(1);
            doc.equal("today", ship.ifPass(1, 2), 2);
            doc.equal("three days", ship.ifPass(3, 2), 2);
            doc.equal("four days", ship.ifPass(4, 2), 4);
        });
        doc.says("then the warm days of each store decrease by 1, if they are above 0", () -> {
            ShipStores ship = Ships.selling(0, Ships.lives(2, 100, 100));
            ship.buy(0, 7, 1);
            ship.warm(1, 1);
            doc.equal("warm for a day", ship.ifPass(2, 1), 0);
            ship.warm(1, 2);
            doc.equal("warm for two days", ship.ifPass(2, 1), 7);
            doc.equal("the warm days stay", ship.store(1, 3), 2);
        });
    }

    private static int sumOf(ShipStores ship, int what) {
        int sum = 0;
        for (int kind = 0; kind < ship.count(1); kind++) {
            sum += ship.kind(kind, what);
        }
        return sum;
    }

    private void ifPassThrows() {
        doc.says("Throws `IllegalArgumentException` if an argument is out of range", () -> {
            for (int days : Sentences.outside(1, 60)) {
                doc.refused("ifPass(" + days + ", 0)", Ships::inPort, ARGUMENT, ship -> ship.ifPass(days, 0));
            }
            for (int what : Sentences.outside(0, 4)) {
                doc.refused("ifPass(1, " + what + ")", Ships::inPort, ARGUMENT, ship -> ship.ifPass(1, what));
            }
            doc.refused("ifPass(-1, 0)", Ships::inPort, ARGUMENT, ship -> ship.ifPass(-1, 0));
        });
        doc.changesNothing(() -> {
            doc.refused("too many days", Ships::full, ARGUMENT, ship -> ship.ifPass(61, 0));
            doc.refused("no such number", Ships::full, ARGUMENT, ship -> ship.ifPass(60, 5));
        });
    }

    private void spoils() {
        doc.promise(27);
        doc.says("Tells how many rations of a kind would spoil in some days, if nothing is bought, moved or thrown away.", () -> {
            doc.looksOnly("60 days", Ships::full, ship -> ship.spoils(7, 60));
            ShipStores ship = Ships.selling(0, Ships.lives(10, 20, 30), Ships.lives(10, 20, 30));
            ship.buy(0, 9, 0);
            ship.buy(1, 7, 0);
            doc.equal("the day before", ship.spoils(0, 9), 0);
            doc.equal("on the day", ship.spoils(0, 10), 9);
            doc.equal("of the other kind", ship.spoils(1, 10), 7);
            Checks.serve(ship, "0*1");
            doc.equal("nine are eaten before", ship.spoils(0, 60), 0);
        });
        doc.says("`kind`: the kind", () -> {
            doc.equal("the first, twice in the dry store", Ships.full().spoils(0, 10), 44 - 10);
            doc.equal("the last, eaten before", Ships.full().spoils(7, 60), 0);
        });
        doc.says("`days`: 1 to 60", () -> {
            ShipStores ship = Ships.selling(0, Ships.lives(1, 60, 61));
            ship.buy(0, 5, 0);
            doc.equal("a day", ship.spoils(0, 1), 5);
            ship.discard(0, 5);
            ship.buy(0, 6, 1);
            ship.pass(3);
            doc.equal("59 days", ship.spoils(0, 59), 0);
            doc.equal("60 days", ship.spoils(0, 60), 6);
        });
        doc.says("Returns the rations.", () -> {
            ShipStores ship = Ships.selling(0, Ships.lives(1, 2, 3));
            doc.equal("without lots", ship.spoils(0, 60), 0);
            ship.buy(0, 5, 0);
            ship.buy(0, 6, 1);
            ship.pass(1);
            doc.equal("those that spoiled before do not count", ship.spoils(0, 60), 6);
            ship.pass(1);
            doc.equal("nothing is left", ship.spoils(0, 60), 0);
        });
        doc.says("Throws `IndexOutOfBoundsException` if there is no such kind", () -> {
            for (int kind : Sentences.outside(0, 1)) {
                doc.refused("spoils(" + kind + ", 1)", Ships::inPort, INDEX, ship -> ship.spoils(kind, 1));
            }
            doc.refused("without kinds", ShipStores::new, INDEX, ship -> ship.spoils(0, 1));
            doc.refused("spoils(8, 1)", Ships::full, INDEX, ship -> ship.spoils(8, 1));
        });
        doc.says("Throws `IllegalArgumentException` if days is out of range", () -> {
            for (int days : Sentences.outside(1, 60)) {
                doc.refused("spoils(0, " + days + ")", Ships::inPort, ARGUMENT, ship -> ship.spoils(0, days));
            }
            doc.refused("spoils(0, -1)", Ships::inPort, ARGUMENT, ship -> ship.spoils(0, -1));
        });
        doc.changesNothing(() -> {
            doc.refused("no such kind", Ships::full, INDEX, ship -> ship.spoils(8, 60));
            doc.refused("too many days", Ships::full, ARGUMENT, ship -> ship.spoils(7, 61));
        });
        doc.firstNamed(() -> {
            doc.refused("kind and days", Ships::full, INDEX, ship -> ship.spoils(8, 61));
            doc.refused("kind and days below 0", Ships::full, INDEX, ship -> ship.spoils(-1, 0));
        });
    }

    /** Nothing of the kind 0 is left after as many days; the substitute is there for more of them. */
    private static ShipStores eating(int days, int substitutes) {
        ShipStores ship = Ships.selling(0, LONG, LONG);
        if (days > 0) {
            ship.buy(0, days, 0);
        }
        if (substitutes > 0) {
            ship.buy(1, substitutes, 0);
        }
        Checks.serve(ship, "0*1/1");
        return ship;
    }

    private void shortIn() {
        doc.promise(28);
        doc.says("Tells when a kind would be short for the first time, if nothing is bought, moved or thrown away.", () -> {
            doc.looksOnly("a kind", Ships::full, ship -> ship.shortIn(7));
            ShipStores ship = eating(5, 0);
            doc.equal("in the days to come", ship.shortIn(0), 5);
            ship.pass(9);
            doc.equal("it was short before", ship.shortIn(0), 0);
            Checks.serve(ship, "-;-;-;-;-;-;-;-;0*1;-");
            doc.equal("on the day 18", ship.shortIn(0), 9);
        });
        doc.says("`kind`: the kind", () -> {
            ShipStores ship = Ships.withKinds(8);
            Checks.serve(ship, "-;-;7*1;0*1");
            doc.row("when they are short", ship::shortIn, 3, NONE, NONE, NONE, NONE, NONE, NONE, 2);
        });
        doc.says("Returns after how many days that day would begin, 0 to 59; NONE if it is not short within 60 days.", () -> {
            doc.equal("today", eating(0, 0).shortIn(0), 0);
            doc.equal("tomorrow", eating(1, 0).shortIn(0), 1);
            doc.equal("in 58 days", eating(58, 0).shortIn(0), 58);
            doc.equal("in 59 days", eating(59, 0).shortIn(0), 59);
            doc.equal("in 60 days", eating(60, 0).shortIn(0), NONE);
            doc.equal("in 59 days with a substitute", eating(0, 59).shortIn(0), 59);
            doc.equal("in 60 days with a substitute", eating(1, 59).shortIn(0), NONE);
            doc.equal("not on a menu", Ships.inPort().shortIn(0), NONE);
        });
        doc.says("what is lacking then is short, and counts for the kind of the item.", () ->
            doc.equal("the substitute is never short", eating(3, 3).shortIn(1), NONE));
        doc.says("Throws `IndexOutOfBoundsException` if there is no such kind", () -> {
            for (int kind : Sentences.outside(0, 1)) {
                doc.refused("shortIn(" + kind + ")", Ships::inPort, INDEX, ship -> ship.shortIn(kind));
            }
            doc.refused("without kinds", ShipStores::new, INDEX, ship -> ship.shortIn(0));
        });
        doc.changesNothing(() -> doc.refused("shortIn(8)", Ships::full, INDEX, ship -> ship.shortIn(8)));
    }

    private void bestStoreIs(int[] lives, int due, int dueIfWarm) {
        ShipStores ship = new ShipStores();
        ship.addKind(lives[0], lives[1], lives[2]);
        String name = "for " + lives[0] + ", " + lives[1] + ", " + lives[2];
        doc.equal(name, ship.bestStore(0), due);
        ship.warm(1, 1);
        ship.warm(2, 30);
        doc.equal(name + " in the warm", ship.bestStore(0), dueIfWarm);
    }

    private void bestStore() {
        doc.promise(29);
        doc.says("Returns the store in which a kind keeps longest now.", () -> {
            doc.looksOnly("a kind", Ships::full, ship -> ship.bestStore(7));
            ShipStores ship = Ships.inPort();
            ship.warm(2, 1);
            doc.equal("while 2 is warm", ship.bestStore(0), 1);
            ship.pass(1);
            doc.equal("when it is not", ship.bestStore(0), 2);
            ship.setRoom(2, 0);
            doc.equal("without room", ship.bestStore(0), 2);
            ship.addKind(200, 200, 200);
            doc.row("each kind for itself", ship::bestStore, 2, 2, 0);
        });
        doc.says("`kind`: the kind", () -> {
            ShipStores ship = new ShipStores();
            for (int kind = 0; kind < 8; kind++) {
                ship.addKind(kind % 3 == 0 ? 9 : 0, kind % 3 == 1 ? 9 : 0, kind % 3 == 2 ? 9 : 0);
            }
            doc.row("the best", ship::bestStore, 0, 1, 2, 0, 1, 2, 0, 1);
        });
        doc.says("Returns the store with the greatest life of the kind as the store is now, of several the lowest one; NONE if"
            + " all these lives are 0.", () -> {
                bestStoreIs(Ships.lives(0, 0, 0), NONE, NONE);
                bestStoreIs(Ships.lives(1, 0, 0), 0, 0);
                bestStoreIs(Ships.lives(0, 1, 0), 1, NONE);
                bestStoreIs(Ships.lives(0, 0, 1), 2, NONE);
                bestStoreIs(Ships.lives(7, 7, 7), 0, 0);
                bestStoreIs(Ships.lives(6, 7, 7), 1, 0);
                bestStoreIs(Ships.lives(7, 6, 7), 0, 0);
                bestStoreIs(Ships.lives(0, 7, 7), 1, NONE);
                bestStoreIs(Ships.lives(199, 199, 200), 2, 0);
                bestStoreIs(Ships.lives(200, 199, 199), 0, 0);
                bestStoreIs(Ships.lives(199, 200, 199), 1, 0);
            });
        doc.says("Throws `IndexOutOfBoundsException` if there is no such kind", () -> {
            for (int kind : Sentences.outside(0, 1)) {
                doc.refused("bestStore(" + kind + ")", Ships::inPort, INDEX, ship -> ship.bestStore(kind));
            }
            doc.refused("without kinds", ShipStores::new, INDEX, ship -> ship.bestStore(0));
        });
        doc.changesNothing(() -> doc.refused("bestStore(8)", Ships::full, INDEX, ship -> ship.bestStore(8)));
    }

    /** The next port is so many days away, and each day a ration of the kind 0 is eaten by each of the heads. */
    private static ShipStores sailing(int days, int heads) {
        ShipStores ship = Ships.selling(0, LONG, LONG);
        ship.addPort(days, 0);
        ship.setCrew(heads);
        Checks.serve(ship, "0*1");
        return ship;
    }

    private void leastPurchase() {
        doc.promise(30);
        doc.says("of the amounts 0, 10, 20 to 1000", () -> {
            doc.equal("0: nothing is needed", sailing(10, 1).leastPurchase(1, 0), 0);
            doc.equal("10 for 1", sailing(1, 1).leastPurchase(0, 0), 10);
            doc.equal("10 for 10", sailing(10, 1).leastPurchase(0, 0), 10);
            doc.equal("20 for 11", sailing(11, 1).leastPurchase(0, 0), 20);
            doc.equal("990", sailing(10, 99).leastPurchase(0, 0), 990);
            doc.equal("1000 for 1000", sailing(10, 100).leastPurchase(0, 0), 1000);
            doc.equal("1000 for 994", sailing(14, 71).leastPurchase(0, 0), 1000);
            doc.equal("nothing does for 1001", sailing(13, 77).leastPurchase(0, 0), NONE);
        });
        doc.says("Finds the least purchase with which a kind is not short before the next port is reached", () -> {
            doc.looksOnly("a purchase", Ships::full, ship -> ship.leastPurchase(7, 2));
            ShipStores ship = sailing(10, 1);
            ship.buy(0, 9, 0);
            doc.equal("one is missing", ship.leastPurchase(0, 0), 10);
            ship.buy(0, 1, 0);
            doc.equal("none is missing", ship.leastPurchase(0, 0), 0);
            ship.pass(3);
            doc.equal("none is missing later", ship.leastPurchase(0, 0), 0);
        });
        doc.says("`kind`: the kind", () -> {
            ShipStores ship = Ships.withKinds(8);
            ship.setCrew(1);
            ship.addPort(1, 0);
            Checks.serve(ship, "0*9,7*9,7*9");
            doc.row("the least", kind -> ship.leastPurchase(kind, 0), 10, 0, 0, 0, 0, 0, 0, 20);
        });
        doc.says("`store`: the store", () -> {
            ShipStores ship = Ships.selling(0, Ships.lives(1, 2, 3));
            ship.addPort(2, 0);
            Checks.serve(ship, "0*1");
            doc.row("the least", store -> ship.leastPurchase(0, store), NONE, 10, 10);
            ship.warm(2, 30);
            doc.row("the least with 2 warm", store -> ship.leastPurchase(0, store), NONE, 10, NONE);
        });
    }

    private void leastPurchaseAsks() {
        doc.says("each tried as a further lot in a store, quite fresh", () -> {
            ShipStores ship = Ships.selling(900, Ships.lives(10, 10, 10));
            ship.addPort(10, 900);
            Checks.serve(ship, "0*1");
            doc.equal("it keeps for 10 days", ship.leastPurchase(0, 0), 10);
            ship.removePort(1);
            ship.addPort(11, 900);
            doc.equal("it does not for 11", ship.leastPurchase(0, 0), NONE);
            ship.buy(0, 2, 0);
            doc.equal("the stale ones are eaten before it", ship.leastPurchase(0, 0), NONE);
            ShipStores other = Ships.selling(900, Ships.lives(3, 3, 3));
            other.addPort(4, 900);
            Checks.serve(other, "0*1");
            doc.equal("it has the age 999 on the last morning", other.leastPurchase(0, 0), 10);
        });
        doc.says("without asking for a port, room, coins, the life in the store, or the number of lots", () -> {
            ShipStores ship = Ships.selling(0, Ships.lives(0, 9, 9), LONG);
            ship.addPort(2, 0);
            for (int lot = 0; lot < 30; lot++) {
                ship.buy(1, 1, 0);
            }
            Checks.serve(ship, "-;0*1");
            ship.pay(-9970);
            ship.setRoom(1, 0);
            ship.pass(1);
            doc.equal("in no port, without room, coins and a further lot", ship.leastPurchase(0, 1), 10);
            doc.equal("without a life in the store", ship.leastPurchase(0, 0), 10);
            ship.removePort(1);
            ship.addPort(4, 0);
            doc.equal("there it keeps for a day", ship.leastPurchase(0, 0), NONE);
        });
        doc.says("or the number of lots", () -> {
            ShipStores ship = Ships.selling(0, LONG, Ships.lives(2, 4, 50));
            ship.addPort(20, 0);
            for (int lot = 0; lot < 30; lot++) {
                ship.buy(lot < 28 ? 0 : 1, 1, lot % 3);
            }
            Checks.serve(ship, "1*1");
            doc.row("the lot 30 is of its kind and in its store", store -> ship.leastPurchase(1, store), NONE, NONE, 20);
            ship.removePort(1);
            ship.addPort(12, 0);
            doc.equal("it is eaten in its place: the last one", ship.leastPurchase(1, 2), 10);
        });
        doc.says("(it can be eaten as a substitute, too)", () -> {
            ShipStores ship = Ships.selling(0, LONG, LONG);
            ship.addPort(1, 0);
            Checks.serve(ship, "1*9/0,0*1");
            doc.equal("9 as a substitute and 1", ship.leastPurchase(0, 0), 10);
            Checks.serve(ship, "1*9/0,0*2");
            doc.equal("9 as a substitute and 2", ship.leastPurchase(0, 0), 20);
            Checks.serve(ship, "0*2,1*9/0");
            doc.equal("short is another kind", ship.leastPurchase(0, 0), 10);
        });
        doc.says("Returns the least amount", () -> {
            ShipStores ship = Ships.selling(0, Ships.lives(1, 200, 200), Ships.lives(2, 200, 200));
            ship.addPort(2, 0);
            ship.buy(0, 9, 1);
            Checks.serve(ship, "1*9/0;0*9");
            doc.equal("what there is, is eaten as a substitute", ship.leastPurchase(0, 1), 10);
            doc.equal("what spoils first is eaten as a substitute", ship.leastPurchase(0, 0), 10);
            Checks.serve(ship, "1*9/0,1*2/0;0*9");
            doc.equal("and two more", ship.leastPurchase(0, 1), 20);
            doc.equal("two of what there is go", ship.leastPurchase(0, 0), 20);
        });
    }

    private void leastPurchaseDays() {
        String sentence = "Returns the least amount with which the kind is not short on any day from now on that is before the day"
            + " of the next port (of the next 60 days, if there is no next port, or it is more than 60 days away); NONE if none of"
            + " them does.";
        doc.says(sentence, () -> {
            doc.equal("a port tomorrow", sailing(1, 10).leastPurchase(0, 0), 10);
            doc.equal("a port in two days", sailing(2, 10).leastPurchase(0, 0), 20);
            doc.equal("a port in 59 days", sailing(59, 10).leastPurchase(0, 0), 590);
            doc.equal("a port in 60 days", sailing(60, 10).leastPurchase(0, 0), 600);
            doc.equal("a port in 61 days", sailing(61, 10).leastPurchase(0, 0), 600);
            doc.equal("a port in 500 days", sailing(500, 10).leastPurchase(0, 0), 600);
            ShipStores ship = sailing(5, 10);
            ship.removePort(1);
            doc.equal("no next port", ship.leastPurchase(0, 0), 600);
            ship.removePort(0);
            doc.equal("no port at all", ship.leastPurchase(0, 0), 600);
        });
        doc.says("on any day from now on that is before the day of the next port", () -> {
            ShipStores ship = sailing(5, 10);
            ship.pass(4);
            doc.equal("the day before", ship.leastPurchase(0, 0), 10);
            ship.pass(1);
            doc.equal("on its day it is not the next", ship.leastPurchase(0, 0), 600);
            ship.addPort(7, 0);
            doc.equal("in two days", ship.leastPurchase(0, 0), 20);
        });
        doc.says("NONE if none of them does.", () -> {
            doc.equal("too many days", sailing(60, 17).leastPurchase(0, 0), NONE);
            ShipStores ship = Ships.selling(0, Ships.lives(1, 1, 1));
            Checks.serve(ship, "0*1");
            doc.equal("it does not keep", ship.leastPurchase(0, 0), NONE);
        });
    }

    private void leastPurchaseThrows() {
        doc.says("Throws `IndexOutOfBoundsException` if there is no such kind or store", () -> {
            for (int kind : Sentences.outside(0, 1)) {
                doc.refused("leastPurchase(" + kind + ", 0)", Ships::inPort, INDEX, ship -> ship.leastPurchase(kind, 0));
            }
            for (int store : Sentences.outside(0, 2)) {
                doc.refused("leastPurchase(0, " + store + ")", Ships::inPort, INDEX, ship -> ship.leastPurchase(0, store));
            }
            doc.refused("without kinds", ShipStores::new, INDEX, ship -> ship.leastPurchase(0, 0));
        });
        doc.changesNothing(() -> {
            doc.refused("no such kind", Ships::full, INDEX, ship -> ship.leastPurchase(8, 0));
            doc.refused("no such store", Ships::full, INDEX, ship -> ship.leastPurchase(0, 3));
        });
    }

    /** A port with this price every other day, from the day 0 on. */
    private static ShipStores withPrices(int... prices) {
        ShipStores ship = Ships.withKinds(8);
        for (int port = 0; port < prices.length; port++) {
            ship.addPort(2 * port, 0);
            ship.setPrice(port, 7, prices[port]);
        }
        return ship;
    }

    private void cheapest() {
        doc.promise(31);
        doc.says("Finds the port where a kind is cheapest.", () ->
            doc.looksOnly("a kind", Ships::full, ship -> ship.cheapest(0)));
        doc.says("`kind`: the kind", () -> {
            ShipStores ship = withPrices(9, 8, 7);
            ship.setPrice(1, 0, 100);
            doc.row("the cheapest", ship::cheapest, 1, NONE, NONE, NONE, NONE, NONE, NONE, 2);
        });
        doc.says("Returns the port, of those where it is sold and whose day is not before the present day, with the least price,"
            + " of several the one with the least day; NONE if there is none.", () -> {
                doc.equal("no ports", withPrices().cheapest(7), NONE);
                doc.equal("one port", withPrices(100).cheapest(7), 0);
                doc.equal("not sold", withPrices(0, 0).cheapest(7), NONE);
                doc.equal("not sold in the first ones", withPrices(0, 0, 100).cheapest(7), 2);
                doc.equal("the first", withPrices(1, 2, 3, 4, 5, 6, 7, 8).cheapest(7), 0);
                doc.equal("the last", withPrices(8, 7, 6, 5, 4, 3, 2, 1).cheapest(7), 7);
                doc.equal("of several", withPrices(5, 4, 4, 0, 4).cheapest(7), 1);
                doc.equal("all alike", withPrices(3, 3, 3).cheapest(7), 0);
                ShipStores ship = withPrices(3, 2, 1);
                ship.removePort(2);
                doc.equal("the cheapest is gone", ship.cheapest(7), 1);
            });
        doc.says("whose day is not before the present day", () -> {
            ShipStores ship = withPrices(1, 2, 3);
            int[] due = {0, 1, 1, 2, 2, NONE};
            for (int port : due) {
                doc.equal("on the day " + ship.count(0), ship.cheapest(7), port);
                ship.pass(1);
            }
        });
        doc.says("Throws `IndexOutOfBoundsException` if there is no such kind", () -> {
            for (int kind : Sentences.outside(0, 1)) {
                doc.refused("cheapest(" + kind + ")", Ships::inPort, INDEX, ship -> ship.cheapest(kind));
            }
            doc.refused("without kinds", () -> Ships.withPorts(8), INDEX, ship -> ship.cheapest(0));
        });
        doc.changesNothing(() -> doc.refused("cheapest(8)", Ships::full, INDEX, ship -> ship.cheapest(8)));
    }

    private void meanIs(String what, ShipStores ship, double due) {
        doc.equal(what + " (in bits)", Double.doubleToLongBits(ship.meanAge()), Double.doubleToLongBits(due));
    }

    private void meanAge() {
        doc.promise(32);
        doc.says("Returns the mean age of the food.", () -> {
            doc.looksOnly("of 30 lots", Ships::full, ship -> (long) ship.meanAge());
            ShipStores ship = Ships.full();
            ship.pass(1);
            double sum = 0;
            for (int lot = 0; lot < ship.count(2); lot++) {
                sum += (double) ship.lot(lot, 2) * ship.lot(lot, 3);
            }
            meanIs("of many lots", ship, sum / ship.count(12));
        });
        doc.says("Returns the sum of age times amount over all lots, as a double, divided by the rations in all lots; 0.0 if"
            + " there are none.", () -> {
                meanIs("without lots", new ShipStores(), 0.0);
                ShipStores ship = Ships.selling(0, Ships.lives(3, 7, 200));
                ship.buy(0, 1, 0);
                meanIs("quite fresh", ship, 0.0);
                ship.pass(3);
                meanIs("the oldest", ship, 999.0);
                ship.addPort(3, 0);
                ship.setPrice(1, 0, 1);
                ship.buy(0, 2, 1);
                meanIs("not rounded", ship, 333.0);
                ship.buy(0, 4, 1);
                meanIs("below 143", ship, 999.0 / 7);
                ship.buy(0, 993, 2);
                meanIs("below 1", ship, 999.0 / 1000);
                ship.pass(1);
                meanIs("when the oldest is gone", ship, (142.0 * 6 + 5.0 * 993) / 999);
                Checks.serve(ship, "0*9");
                ship.setCrew(100);
                ship.pass(2);
                meanIs("when all is eaten", ship, 0.0);
            });
        doc.says("0.0 if there are none.", () -> {
            ShipStores ship = Ships.withLots(1);
            ship.pass(1);
            ship.discard(0, 10);
            meanIs("all is thrown away", ship, 0.0);
        });
        doc.says("as a double", () -> {
            ShipStores ship = Ships.selling(900, LONG);
            for (int store = 0; store <= 2; store++) {
                ship.setRoom(store, 5000);
                ship.pay(5000);
                for (int lot = 0; lot < 5; lot++) {
                    ship.buy(0, 1000, store);
                }
            }
            ship.pass(19);
            meanIs("the most food, as old as can be", ship, 995.0);
            ship.discard(14, 1);
            ship.addPort(19, 7);
            ship.setPrice(1, 0, 1);
            ship.buy(0, 1, 2);
            meanIs("one is fresh", ship, (995.0 * 14999 + 7) / 15000);
        });
    }

    private void digest() {
        doc.promise(33);
        doc.says("Computes a hash of the whole state.", () -> {
            doc.looksOnly("of a full one", Ships::full, ShipStores::digest);
            doc.equal("the same ship", Ships.full().digest(), Ships.full().digest());
        });
        doc.says("The hash starts at 2203.", () ->
            doc.equal("of a new ship", new ShipStores().digest(), NEW_SHIP));
        doc.says("the length of the buffer and each of its character codes.", () -> {
            ShipStores ship = new ShipStores();
            ship.append(33);
            doc.equal("with a character", ship.digest(), 31 * (NEW_SHIP + 1) + 33);
            ship.append(126);
            doc.equal("with two", ship.digest(), 31 * (31 * (NEW_SHIP + 2) + 33) + 126);
            ship.clearBuffer();
            doc.equal("with a clear one", ship.digest(), NEW_SHIP);
        });
        doc.says("Returns the hash.", () -> {
            ShipStores ship = new ShipStores();
            doc.equal("of the same state", ship.digest(), ship.digest());
            ship.setCrew(11);
            doc.equal("of a state with another crew and a saved state", ship.digest(), Digest.of(ship, ""));
        });
    }

    private void digestIs(String what, ShipStores ship, String buffer) {
        doc.equal(what, ship.digest(), Digest.of(ship, buffer));
    }

    private void digestOfAll() {
        String sentence = "For each value v of the following list, in order, the hash becomes 31 * hash + v, in long arithmetic with"
            + " overflow.";
        doc.says(sentence, () -> {
            digestIs("of a new ship", new ShipStores(), "");
            digestIs("of a full one", Ships.full(), "0*1;".repeat(15));
            digestIs("with kinds alone", Ships.withKinds(8), "");
            digestIs("with ports alone", Ships.withPorts(8), "");
            ShipStores stale = Ships.selling(900, LONG);
            stale.addPort(1, 1);
            digestIs("with stale ports", stale, "");
            digestIs("with menus", Ships.withMenus("0*1/1;-;1*9"), "");
        });
        doc.says("The values are: count(0) to count(12); for each lot its properties 0 to 5; for each store its properties 0 to 3;"
            + " for each kind its properties 0 to 9, shortIn and bestStore; for each port its properties 0 and 1, then its price of"
            + " each kind; for each menu, for each of the items 0 to 3 its properties 0 to 2; ifPass with 14 days for 0 to 4; the"
            + " bits of meanAge (as Double.doubleToLongBits)", () -> {
                ShipStores ship = Ships.full();
                ship.warm(2, 15);
                ship.removePort(7);
                ship.addPort(500, 900);
                ship.setPrice(7, 7, 100);
                for (int day = 0; day < 30; day++) {
                    digestIs("on the day " + day, ship, "0*1;".repeat(15));
                    ship.pass(1);
                }
            });
        doc.says("ifPass with 14 days", () -> {
            for (int life : new int[] {13, 14, 15}) {
                ShipStores ship = Ships.selling(0, Ships.lives(life, life, life));
                ship.buy(0, 7, 0);
                digestIs("it keeps for " + life, ship, "");
                ShipStores hungry = Ships.selling(0, LONG);
                hungry.buy(0, life, 0);
                Checks.serve(hungry, "0*1");
                digestIs("there is food for " + life, hungry, "");
            }
        });
        doc.says("the bits of meanAge (as Double.doubleToLongBits)", () -> {
            for (int fresh = 0; fresh <= 12; fresh++) {
                ShipStores ship = Ships.selling(1, LONG);
                ship.buy(0, 1, 0);
                ship.removePort(0);
                ship.addPort(0, 0);
                ship.setPrice(0, 0, 1);
                if (fresh > 0) {
                    ship.buy(0, (1 << fresh) % 1000 - fresh % 2, 1);
                }
                digestIs("a mean of " + ship.meanAge(), ship, "");
                ship.pass(33 + fresh);
                digestIs("a mean of " + ship.meanAge(), ship, "");
            }
        });
    }
}
