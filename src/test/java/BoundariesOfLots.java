import java.util.List;
import java.util.function.Consumer;

/** The boundary cases of the promises 10 to 12. */
final class BoundariesOfLots {
    private static final Class<IllegalArgumentException> ARGUMENT = Sentences.ARGUMENT;
    private static final Class<IllegalStateException> STATE = Sentences.STATE;
    private static final Class<IndexOutOfBoundsException> INDEX = Sentences.INDEX;
    /** What takes the reasons of refusing() away, from the first on. */
    private static final List<Consumer<ShipStores>> MENDED = List.of(ship -> ship.addPort(1, 0),
        ship -> ship.setPrice(1, 1, 1), ship -> ship.warm(2, 0), ship -> ship.setRoom(2, 301), ship -> ship.pay(1),
        ship -> ship.discard(0, 10));

    private final Sentences doc;

    BoundariesOfLots(Sentences doc) {
        this.doc = doc;
    }

    void test() {
        buy();
        buyFillsUp();
        buyIsRefused();
        buyThrows();
        move();
        moveAnswers();
        moveIsRefused();
        moveThrows();
        discard();
        discardThrows();
    }

    /** All six reasons hold for buy(1, 1, 2), but for as many as are mended, the first ones. */
    static ShipStores refusing(int mended) {
        ShipStores ship = Ships.withLots(30);
        ship.setRoom(2, 300);
        ship.pay(-9700);
        ship.pass(1);
        ship.warm(2, 5);
        for (int part = 0; part < mended; part++) {
            MENDED.get(part).accept(ship);
        }
        return ship;
    }

    private void buy() {
        doc.promise(10);
        doc.says("There are at most 30 lots, numbered from 0 in the order in which they came.", () -> {
            ShipStores ship = Ships.inPort();
            for (int lot = 0; lot < 30; lot++) {
                doc.equal("buy", ship.buy(lot % 2, 1 + lot, 2), lot);
            }
            doc.equal("lots", ship.count(2), 30);
            for (int lot = 0; lot < 30; lot++) {
                doc.equal("its amount", ship.lot(lot, 2), 1 + lot);
            }
        });
        doc.says("Buys food in the port; it becomes a new lot.", () -> {
            ShipStores ship = Ships.inPort();
            ship.setPrice(0, 1, 100);
            ship.buy(0, 1, 0);
            doc.equal("another of the same kind in the same store", ship.buy(0, 1, 0), 1);
            doc.equal("the dearest", ship.buy(1, 99, 1), 2);
            doc.equal("coins", ship.count(6), 10000 - 9902);
            doc.equal("spent", ship.count(7), 9902);
            doc.row("the lot", what -> ship.lot(2, what), 1, 1, 99, 0, 4, 0);
        });
        doc.says("a staleness (0 to 900: the age of what is bought there)", () -> {
            for (int staleness : new int[] {0, 1, 899, 900}) {
                ShipStores ship = Ships.selling(staleness, Ships.lives(1, 2, 200));
                for (int store = 0; store <= 2; store++) {
                    ship.buy(0, 1, store);
                    doc.equal("its age", ship.lot(store, 3), staleness);
                }
            }
        });
        doc.says("Undoable.", () -> {
            doc.undone("a ration", Ships::inPort, ship -> ship.buy(0, 1, 0));
            doc.undone("all that goes in", Ships::inPort, ship -> ship.buy(1, 1000, 2));
        });
        doc.says("`kind`: the kind", () -> {
            for (int kind = 0; kind < 8; kind++) {
                ShipStores ship = Ships.full();
                ship.discard(29, ship.lot(29, 2));
                ship.buy(kind, 1, 0);
                doc.equal("its kind", ship.lot(29, 0), kind);
            }
        });
        doc.says("`amount`: 1 to 2000", () -> {
            for (int amount : new int[] {1, 2, 1999, 2000}) {
                ShipStores ship = Ships.inPort();
                ship.setRoom(1, 5000);
                doc.equal("a lot of " + amount, ship.buy(0, amount, 1), 0);
                doc.equal("its amount", ship.lot(0, 2), amount);
            }
        });
        doc.says("`store`: the store", () -> {
            for (int store = 0; store <= 2; store++) {
                ShipStores ship = Ships.inPort();
                ship.buy(0, 1, store);
                doc.equal("its store", ship.lot(0, 1), store);
            }
        });
        doc.says("Returns the number of the lot.", () -> {
            doc.equal("the first", Ships.inPort().buy(0, 1, 0), 0);
            doc.equal("the last", Ships.withLots(29).buy(0, 1, 0), 29);
            ShipStores ship = Ships.withLots(30);
            ship.discard(3, 10);
            doc.equal("after one of 30 is gone", ship.buy(0, 1, 0), 29);
        });
    }

    private void buyFillsUp() {
        doc.says("the rations of all lots in it can be fewer or as many.", () -> {
            ShipStores ship = Ships.inPort();
            ship.setRoom(1, 5000);
            ship.buy(0, 2000, 1);
            ship.buy(1, 2000, 1);
            doc.equal("as many", ship.buy(0, 1000, 1), 2);
            doc.thrown("one more", ship, STATE, it -> it.buy(0, 1, 1));
            doc.equal("in another store", ship.buy(0, 1000, 0), 3);
        });
        doc.says("The purse has 0 to 1000000 coins, at first 10000.", () -> {
            ShipStores ship = Ships.inPort();
            ship.setPrice(0, 0, 100);
            doc.thrown("101 rations", ship, STATE, it -> it.buy(0, 101, 0));
            ship.buy(0, 100, 0);
            doc.equal("none is left", ship.count(6), 0);
            doc.thrown("without coins", ship, STATE, it -> it.buy(1, 1, 1));
            doc.equal("spent", ship.count(7), 10000);
        });
        doc.says("Of each kind the rations that were bought are those that were eaten", () -> {
            ShipStores ship = Ships.inPort();
            ship.buy(0, 1, 0);
            ship.buy(0, 1000, 1);
            doc.row("kind 0", what -> ship.kind(0, what), 10, 20, 100, 1001, 0, 0, 0, 1001, 0, 2);
            doc.row("kind 1", what -> ship.kind(1, what), 0, 4, 50, 0, 0, 0, 0, 0, 0, 0);
        });
    }

    private void buyIsRefused() {
        doc.says("A purchase is refused for the first of these reasons that holds: 1: the ship is in no port; 2: the kind is"
            + " not sold there; 3: the life of the kind in this store is 0 (as the store is now); 4: the store has too"
            + " little room left; 5: the price times the amount is more than the purse has; 6: there are 30 lots.", () -> {
                for (int mended = 0; mended < MENDED.size(); mended++) {
                    int parts = mended;
                    doc.refused("the reason " + (mended + 1), () -> refusing(parts), STATE, ship -> ship.buy(1, 1, 2));
                }
                doc.equal("no reason is left", refusing(MENDED.size()).buy(1, 1, 2), 29);
            });
        doc.says("1: the ship is in no port", () -> {
            doc.refused("the day before", () -> Ships.inPortOn(1), STATE, ship -> ship.buy(0, 1, 0));
            ShipStores ship = Ships.inPort();
            ship.pass(1);
            doc.thrown("the day after", ship, STATE, it -> it.buy(0, 1, 0));
        });
        doc.says("2: the kind is not sold there", () -> {
            ShipStores ship = Ships.inPort();
            ship.addKind(5, 5, 5);
            doc.thrown("a kind without a price", ship, STATE, it -> it.buy(2, 1, 0));
            ship.setPrice(0, 2, 1);
            doc.equal("for a coin", ship.buy(2, 1, 0), 0);
        });
        doc.says("3: the life of the kind in this store is 0 (as the store is now)", () -> {
            ShipStores ship = Ships.selling(0, Ships.lives(0, 1, 0), Ships.lives(1, 0, 0));
            doc.thrown("no life in 0", ship, STATE, it -> it.buy(0, 1, 0));
            doc.thrown("no life in 2", ship, STATE, it -> it.buy(0, 1, 2));
            doc.equal("a life of 1", ship.buy(0, 1, 1), 0);
            ship.warm(1, 1);
            doc.thrown("no life as it is warm", ship, STATE, it -> it.buy(0, 1, 1));
            doc.equal("a life as it is warm", ship.buy(1, 1, 1), 1);
        });
        doc.says("4: the store has too little room left", () -> {
            ShipStores ship = Ships.inPort();
            ship.buy(0, 600, 0);
            doc.thrown("one too many", ship, STATE, it -> it.buy(0, 401, 0));
            doc.equal("just as many", ship.buy(0, 400, 0), 1);
            ship.setRoom(1, 0);
            doc.thrown("no room at all", ship, STATE, it -> it.buy(0, 1, 1));
        });
        doc.says("5: the price times the amount is more than the purse has", () -> {
            ShipStores ship = Ships.inPort();
            ship.pay(-9900);
            ship.setPrice(0, 0, 20);
            doc.thrown("6 for 20 coins", ship, STATE, it -> it.buy(0, 6, 0));
            doc.equal("5 for 20 coins", ship.buy(0, 5, 0), 0);
            doc.thrown("without coins", ship, STATE, it -> it.buy(1, 1, 1));
        });
        doc.says("6: there are 30 lots.", () -> {
            doc.refused("with 30", () -> Ships.withLots(30), STATE, ship -> ship.buy(0, 1, 0));
            doc.equal("with 29", Ships.withLots(29).buy(0, 1, 0), 29);
        });
    }

    private void buyThrows() {
        doc.says("Throws `IndexOutOfBoundsException` if there is no such kind or store", () -> {
            for (int kind : Sentences.outside(0, 1)) {
                doc.refused("buy(" + kind + ", 1, 0)", Ships::inPort, INDEX, ship -> ship.buy(kind, 1, 0));
            }
            for (int store : Sentences.outside(0, 2)) {
                doc.refused("buy(0, 1, " + store + ")", Ships::inPort, INDEX, ship -> ship.buy(0, 1, store));
            }
            doc.refused("without kinds", () -> Ships.withPorts(8), INDEX, ship -> ship.buy(0, 1, 0));
            doc.refused("buy(8, 1, 0)", Ships::full, INDEX, ship -> ship.buy(8, 1, 0));
        });
        doc.says("Throws `IllegalArgumentException` if amount is out of range", () -> {
            for (int amount : Sentences.outside(1, 2000)) {
                doc.refused("buy(0, " + amount + ", 0)", Ships::inPort, ARGUMENT, ship -> ship.buy(0, amount, 0));
            }
            doc.refused("buy(0, -1, 0)", Ships::inPort, ARGUMENT, ship -> ship.buy(0, -1, 0));
        });
        doc.says("Throws `IllegalStateException` if the purchase is refused", () -> {
            doc.refused("too little room", Ships::inPort, STATE, ship -> ship.buy(0, 1001, 0));
            doc.equal("room enough", Ships.inPort().buy(0, 1000, 0), 0);
        });
        doc.changesNothing(() -> {
            doc.refused("no such kind", Ships::full, INDEX, ship -> ship.buy(8, 1, 0));
            doc.refused("no such amount", Ships::full, ARGUMENT, ship -> ship.buy(0, 2001, 0));
            doc.refused("30 lots", Ships::full, STATE, ship -> ship.buy(0, 1, 0));
        });
        doc.firstNamed(() -> {
            doc.refused("kind and amount", Ships::full, INDEX, ship -> ship.buy(8, 0, 0));
            doc.refused("store and amount", Ships::full, INDEX, ship -> ship.buy(0, 2001, 3));
            doc.refused("amount with 30 lots", Ships::full, ARGUMENT, ship -> ship.buy(0, 0, 0));
            doc.refused("amount in no port", () -> Ships.inPortOn(1), ARGUMENT, ship -> ship.buy(0, 2001, 0));
            doc.refused("kind in no port", () -> Ships.inPortOn(1), INDEX, ship -> ship.buy(2, 1, 0));
            doc.refused("store in no port", () -> Ships.inPortOn(1), INDEX, ship -> ship.buy(0, 1, -1));
        });
    }

    /** A lot of 100 in the store 0, and one of 50 in the store 1; both are a day old. */
    private static ShipStores withTwoLots() {
        ShipStores ship = Ships.selling(0, Ships.lives(10, 20, 0), Ships.lives(0, 5, 50));
        ship.buy(0, 100, 0);
        ship.buy(1, 50, 1);
        ship.pass(1);
        return ship;
    }

    /** A lot of 100 in the store 0, and one saved state fewer than there can be. */
    private static ShipStores withALot() {
        ShipStores ship = Ships.selling(0, Ships.lives(10, 20, 0));
        ship.buy(0, 100, 0);
        return ship;
    }

    private void move() {
        doc.promise(11);
        doc.says("Brings rations of a lot to another store (also to one where the life of its kind is 0).", () -> {
            ShipStores ship = withTwoLots();
            doc.equal("all of them", ship.move(0, 100, 2), 0);
            doc.equal("some of them", ship.move(1, 1, 0), 2);
            doc.equal("a day is left of the first", ship.lot(0, 4), 1);
            doc.equal("a day is left of the part", ship.lot(2, 4), 1);
            doc.equal("days left of the rest", ship.lot(1, 4), 4);
            doc.equal("they spoil", ship.pass(1), 101);
        });
        doc.says("All of them: the lot changes its store; fewer: they become a new lot, the last one, with the same age.", () -> {
            ShipStores ship = withTwoLots();
            doc.equal("all of them", ship.move(0, 100, 1), 0);
            doc.row("the lot", what -> ship.lot(0, what), 0, 1, 100, 100);
            doc.equal("lots", ship.count(2), 2);
            doc.equal("all but one", ship.move(0, 99, 2), 2);
            doc.row("what is left", what -> ship.lot(0, what), 0, 1, 1, 100);
            doc.row("the new lot", what -> ship.lot(2, what), 0, 2, 99, 100);
            doc.equal("one of them", ship.move(1, 1, 2), 3);
            doc.row("what is left", what -> ship.lot(1, what), 1, 1, 49, 200);
            doc.row("the new lot", what -> ship.lot(3, what), 1, 2, 1, 200);
            doc.equal("the last one that is left", ship.move(0, 1, 0), 0);
            doc.equal("lots", ship.count(2), 4);
            doc.row("bought, eaten, spoiled and thrown away of 0", what -> ship.kind(0, 3 + what), 100, 0, 0, 0, 100);
        });
        doc.says("Undoable.", () -> {
            doc.undone("all", BoundariesOfLots::withALot, ship -> ship.move(0, 100, 1));
            doc.undone("a part", BoundariesOfLots::withALot, ship -> ship.move(0, 1, 2));
        });
        doc.says("`lot`: its number", () -> {
            for (int lot = 0; lot < 30; lot++) {
                ShipStores ship = Ships.withLots(30);
                ship.move(lot, 10, 1);
                for (int other = 0; other < 30; other++) {
                    doc.equal("the store of " + other, ship.lot(other, 1), other == lot ? 1 : 2);
                }
            }
        });
        doc.says("`amount`: 1 to the amount of the lot", () -> {
            for (int amount = 1; amount <= 10; amount++) {
                ShipStores ship = Ships.withLots(1);
                doc.equal("move(0, " + amount + ", 0)", ship.move(0, amount, 0), amount == 10 ? 0 : 1);
                doc.equal("rations in the store", ship.store(0, 1), amount);
            }
        });
        doc.says("`store`: the other store", () -> {
            for (int store = 0; store <= 2; store++) {
                ShipStores ship = Ships.inPort();
                ship.buy(0, 5, store);
                for (int turn = 1; turn <= 2; turn++) {
                    int other = (store + turn) % 3;
                    ship.move(0, 5, other);
                    doc.equal("its store", ship.lot(0, 1), other);
                }
            }
        });
    }

    private void moveAnswers() {
        doc.says("Returns the number of the lot that is in that store then.", () -> {
            doc.equal("all of the first", Ships.withLots(29).move(0, 10, 1), 0);
            doc.equal("all of the last", Ships.withLots(30).move(29, 10, 1), 29);
            doc.equal("a part of the first", Ships.withLots(1).move(0, 9, 1), 1);
            doc.equal("a part, the thirtieth", Ships.withLots(29).move(0, 9, 1), 29);
        });
        doc.says("There are at most 30 lots, numbered from 0 in the order in which they came.", () -> {
            ShipStores ship = Ships.withLots(29);
            doc.equal("a part", ship.move(28, 4, 0), 29);
            doc.row("the thirtieth", what -> ship.lot(29, what), 0, 0, 4, 0, 10, 0);
            doc.thrown("a further part", ship, STATE, it -> it.move(28, 1, 0));
            doc.equal("all that is left", ship.move(28, 6, 0), 28);
        });
        doc.says("the rations of all lots in it can be fewer or as many.", () -> {
            ShipStores ship = Ships.withLots(3);
            ship.setRoom(0, 19);
            doc.equal("a lot", ship.move(0, 10, 0), 0);
            doc.thrown("another one", ship, STATE, it -> it.move(1, 10, 0));
            doc.equal("as many as go in", ship.move(1, 9, 0), 3);
            doc.thrown("one more", ship, STATE, it -> it.move(1, 1, 0));
            doc.equal("rations in it", ship.store(0, 1), 19);
        });
    }

    private void moveIsRefused() {
        doc.says("Throws `IndexOutOfBoundsException` if there is no such lot or store", () -> {
            for (int lot : Sentences.outside(0, 1)) {
                doc.refused("move(" + lot + ", 1, 1)", () -> Ships.withLots(2), INDEX, ship -> ship.move(lot, 1, 1));
            }
            for (int store : Sentences.outside(0, 2)) {
                doc.refused("move(0, 1, " + store + ")", () -> Ships.withLots(2), INDEX, ship -> ship.move(0, 1, store));
            }
            doc.refused("without lots", Ships::inPort, INDEX, ship -> ship.move(0, 1, 1));
            doc.refused("move(30, 1, 1)", () -> Ships.withLots(30), INDEX, ship -> ship.move(30, 1, 1));
        });
        doc.says("Throws `IllegalArgumentException` if amount is out of range, or the lot is in this store", () -> {
            for (int amount : Sentences.outside(1, 10)) {
                doc.refused("move(0, " + amount + ", 1)", () -> Ships.withLots(2), ARGUMENT,
                    ship -> ship.move(0, amount, 1));
            }
            doc.refused("move(0, -1, 1)", () -> Ships.withLots(2), ARGUMENT, ship -> ship.move(0, -1, 1));
            doc.refused("all to its own store", () -> Ships.withLots(2), ARGUMENT, ship -> ship.move(0, 10, 2));
            doc.refused("a part to its own store", () -> Ships.withLots(2), ARGUMENT, ship -> ship.move(1, 1, 2));
            ShipStores ship = Ships.withLots(2);
            ship.move(0, 10, 0);
            doc.thrown("to the dry store that it is in", ship, ARGUMENT, it -> it.move(0, 10, 0));
            ship.move(1, 3, 0);
            doc.thrown("as many as it had", ship, ARGUMENT, it -> it.move(1, 10, 0));
        });
        doc.says("Throws `IllegalStateException` if that store has too little room left, or there would be more than 30"
            + " lots", () -> {
                ShipStores ship = Ships.withLots(30);
                ship.setRoom(1, 9);
                ship.setRoom(0, 0);
                doc.thrown("too little room for all", ship, STATE, it -> it.move(0, 10, 1));
                doc.thrown("no room", ship, STATE, it -> it.move(0, 10, 0));
                ship.setRoom(1, 10);
                doc.thrown("a part with 30 lots", ship, STATE, it -> it.move(0, 9, 1));
                doc.equal("just room enough for all", ship.move(0, 10, 1), 0);
                doc.thrown("no room left", ship, STATE, it -> it.move(1, 10, 1));
                ship.discard(29, 10);
                doc.thrown("no room left for a part", ship, STATE, it -> it.move(1, 1, 1));
                ship.setRoom(1, 11);
                doc.equal("a part with 29 lots", ship.move(1, 1, 1), 29);
            });
    }

    private void moveThrows() {
        doc.changesNothing(() -> {
            doc.refused("no such lot", Ships::full, INDEX, ship -> ship.move(30, 1, 1));
            doc.refused("no such amount", Ships::full, ARGUMENT, ship -> ship.move(0, 11, 1));
            doc.refused("its own store", Ships::full, ARGUMENT, ship -> ship.move(0, 10, 0));
            doc.refused("a part with 30 lots", Ships::full, STATE, ship -> ship.move(0, 1, 1));
        });
        doc.firstNamed(() -> {
            doc.refused("lot and amount", Ships::full, INDEX, ship -> ship.move(30, 0, 1));
            doc.refused("store and amount", Ships::full, INDEX, ship -> ship.move(0, 11, 3));
            doc.refused("lot and store", Ships::full, INDEX, ship -> ship.move(-1, 1, -1));
            doc.refused("amount with 30 lots", Ships::full, ARGUMENT, ship -> ship.move(0, 0, 1));
            doc.refused("its own store with 30 lots", Ships::full, ARGUMENT, ship -> ship.move(0, 1, 0));
            ShipStores ship = Ships.withLots(2);
            ship.setRoom(2, 20);
            ship.setRoom(0, 0);
            doc.thrown("its own store, which is full", ship, ARGUMENT, it -> it.move(0, 10, 2));
            doc.thrown("an amount out of range, without room", ship, ARGUMENT, it -> it.move(0, 11, 0));
            doc.thrown("no such lot, without room", ship, INDEX, it -> it.move(2, 10, 0));
        });
    }

    private void discard() {
        doc.promise(12);
        doc.says("Throws rations of a lot away; a lot with nothing left is gone.", () -> {
            ShipStores ship = Ships.inPort();
            for (int lot = 0; lot < 3; lot++) {
                ship.buy(lot % 2, 5 + lot, 1 + lot % 2);
            }
            ship.discard(0, 4);
            doc.row("the first has one left", what -> ship.lot(0, what), 0, 1, 1, 0);
            ship.discard(0, 1);
            doc.equal("lots", ship.count(2), 2);
            doc.row("accounts of the kind 0", what -> ship.kind(0, 3 + what), 12, 0, 0, 5, 7, 0, 1);
            doc.row("accounts of the kind 1", what -> ship.kind(1, 3 + what), 6, 0, 0, 0, 6, 0, 1);
            doc.row("the store 1", what -> ship.store(1, what), 1000, 7, 1);
            doc.row("the store 2", what -> ship.store(2, what), 1000, 6, 1);
            doc.row("the second is the first now", what -> ship.lot(0, what), 1, 2, 6, 0);
            doc.row("the third is the second now", what -> ship.lot(1, what), 0, 1, 7, 0);
            ship.discard(1, 7);
            doc.equal("lots", ship.count(2), 1);
            doc.row("the other one stays", what -> ship.lot(0, what), 1, 2, 6, 0);
            doc.row("accounts of 0", what -> ship.kind(0, 3 + what), 12, 0, 0, 12, 0, 0, 0);
        });
        doc.says("an amount above 0", () -> {
            ShipStores ship = Ships.withLots(30);
            for (int lot = 29; lot >= 0; lot--) {
                ship.discard(lot, 10);
                doc.equal("lots", ship.count(2), lot);
            }
            doc.thrown("no lot is left", ship, INDEX, it -> it.discard(0, 1));
        });
        doc.says("those that were eaten (as items or as substitutes, counted for the kind of the lot), that spoiled, that"
            + " were thrown away, and that are in the lots.", () -> {
                ShipStores ship = Ships.inPort();
                ship.buy(0, 1000, 0);
                ship.discard(0, 999);
                doc.row("all but one", what -> ship.kind(0, 3 + what), 1000, 0, 0, 999, 1, 0, 1);
                ship.discard(0, 1);
                doc.row("all", what -> ship.kind(0, 3 + what), 1000, 0, 0, 1000, 0, 0, 0);
            });
        doc.says("Undoable.", () -> {
            doc.undone("all", BoundariesOfLots::withALot, ship -> ship.discard(0, 100));
            doc.undone("a part", BoundariesOfLots::withALot, ship -> ship.discard(0, 1));
        });
        doc.says("`lot`: its number", () -> {
            doc.equal("the first", Ships.withLots(30).discard(0, 1), 299);
            ShipStores ship = Ships.withLots(30);
            ship.discard(29, 3);
            doc.equal("the last", ship.lot(29, 2), 7);
            doc.equal("the first", ship.lot(0, 2), 10);
        });
        doc.says("`amount`: 1 to the amount of the lot", () -> {
            for (int amount = 1; amount <= 10; amount++) {
                doc.equal("discard(1, " + amount + ")", Ships.withLots(2).discard(1, amount), 20 - amount);
            }
        });
        doc.says("Returns how many rations there are in all lots then.", () -> {
            doc.equal("of two lots", Ships.withLots(2).discard(0, 10), 10);
            doc.equal("nothing is left", Ships.withLots(1).discard(0, 10), 0);
            doc.equal("one is left", Ships.withLots(1).discard(0, 9), 1);
        });
    }

    private void discardThrows() {
        doc.says("Throws `IndexOutOfBoundsException` if there is no such lot", () -> {
            for (int lot : Sentences.outside(0, 1)) {
                doc.refused("discard(" + lot + ", 1)", () -> Ships.withLots(2), INDEX, ship -> ship.discard(lot, 1));
            }
            doc.refused("without lots", Ships::inPort, INDEX, ship -> ship.discard(0, 1));
            doc.refused("discard(30, 1)", () -> Ships.withLots(30), INDEX, ship -> ship.discard(30, 1));
        });
        doc.says("Throws `IllegalArgumentException` if amount is out of range", () -> {
            for (int amount : Sentences.outside(1, 10)) {
                doc.refused("discard(0, " + amount + ")", () -> Ships.withLots(2), ARGUMENT,
                    ship -> ship.discard(0, amount));
            }
            doc.refused("discard(0, -1)", () -> Ships.withLots(2), ARGUMENT, ship -> ship.discard(0, -1));
            ShipStores ship = Ships.withLots(1);
            ship.discard(0, 3);
            doc.thrown("as many as it had", ship, ARGUMENT, it -> it.discard(0, 8));
        });
        doc.changesNothing(() -> {
            doc.refused("no such lot", Ships::full, INDEX, ship -> ship.discard(30, 1));
            doc.refused("none", Ships::full, ARGUMENT, ship -> ship.discard(0, 0));
            doc.refused("too many", Ships::full, ARGUMENT, ship -> ship.discard(0, 11));
        });
        doc.firstNamed(() -> {
            doc.refused("lot and amount", Ships::full, INDEX, ship -> ship.discard(30, 0));
            doc.refused("lot below 0 and amount", Ships::full, INDEX, ship -> ship.discard(-1, -1));
            doc.refused("lot and amount without lots", Ships::inPort, INDEX, ship -> ship.discard(0, 0));
        });
    }
}
