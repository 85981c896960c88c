/** Promises 10 to 13. */
public final class LotsTest {
    private static final Class<IllegalArgumentException> ARGUMENT = IllegalArgumentException.class;
    private static final Class<IllegalStateException> STATE = IllegalStateException.class;
    private static final Class<IndexOutOfBoundsException> INDEX = IndexOutOfBoundsException.class;
    private static final Checks CHECKS = new Checks();

    public static void main(String[] args) {
        buy();
        buyIsRefused();
        move();
        moveIsRefused();
        discard();
        passAges();
        passServes();
        passTakesSubstitutes();
        passEatsFirstWhatExpiresFirst();
        passInOrder();
        passIsRefused();
        CHECKS.end("LotsTest");
    }

    private static void lotIs(ShipStores ship, int lot, int... properties) {
        for (int what = 0; what < properties.length; what++) {
            CHECKS.equal("lot(" + lot + ", " + what + ")", ship.lot(lot, what), properties[what]);
        }
    }

    private static void kindIs(ShipStores ship, int kind, int... accounts) {
        for (int index = 0; index < accounts.length; index++) {
            CHECKS.equal("kind(" + kind + ", " + (index + 3) + ")", ship.kind(kind, index + 3), accounts[index]);
        }
    }

    private static void buy() {
        ShipStores ship = new ShipStores();
        ship.addKind(10, 20, 30);
        ship.addPort(0, 450);
        ship.setPrice(0, 0, 3);
        CHECKS.undoable("buy(0, 1, 0)", ship, 0, () -> ship.buy(0, 1, 0));
        CHECKS.undoable("buy(0, 500, 2)", ship, 1, () -> ship.buy(0, 500, 2));
        lotIs(ship, 0, 0, 0, 1, 450, 6, 0);
        lotIs(ship, 1, 0, 2, 500, 450, 17, 1);
        kindIs(ship, 0, 501, 0, 0, 0, 501, 0, 2);
        CHECKS.equal("the purse", ship.count(6), 10000 - 1503);
        CHECKS.equal("spent", ship.count(7), 1503);
        ship.setRoom(1, 5000);
        CHECKS.equal("buy(0, 2000, 1)", ship.buy(0, 2000, 1), 2);
    }

    private static void buyIsRefused() {
        ShipStores ship = Ships.inPort();
        for (int bad : new int[] {-1, 2, Integer.MIN_VALUE, Integer.MAX_VALUE}) {
            CHECKS.refused("buy(" + bad + ", 1, 0)", ship, INDEX, () -> ship.buy(bad, 1, 0));
            CHECKS.refused("buy(" + bad + ", 0, 0)", ship, INDEX, () -> ship.buy(bad, 0, 0));
        }
        for (int bad : new int[] {-1, 3, Integer.MIN_VALUE, Integer.MAX_VALUE}) {
            CHECKS.refused("buy(0, 1, " + bad + ")", ship, INDEX, () -> ship.buy(0, 1, bad));
            CHECKS.refused("buy(0, 2001, " + bad + ")", ship, INDEX, () -> ship.buy(0, 2001, bad));
        }
        for (int bad : new int[] {0, -1, 2001, Integer.MIN_VALUE, Integer.MAX_VALUE}) {
            CHECKS.refused("buy(0, " + bad + ", 0)", ship, ARGUMENT, () -> ship.buy(0, bad, 0));
            CHECKS.refused("buy(1, " + bad + ", 0)", ship, ARGUMENT, () -> ship.buy(1, bad, 0));
        }
        CHECKS.refused("its life there is 0", ship, STATE, () -> ship.buy(1, 1, 0));
        CHECKS.refused("too little room", ship, STATE, () -> ship.buy(0, 1001, 0));
        ship.pay(-9000);
        CHECKS.equal("all coins", ship.buy(0, 1000, 0), 0);
        CHECKS.equal("the purse is empty", ship.count(6), 0);
        CHECKS.refused("no coins", ship, STATE, () -> ship.buy(0, 1, 1));
        ship.pay(1000);
        ship.setPrice(0, 0, 0);
        CHECKS.refused("not sold", ship, STATE, () -> ship.buy(0, 1, 1));
        ship.setPrice(0, 0, 1);
        for (int lot = 1; lot < 30; lot++) {
            CHECKS.equal("buy", ship.buy(0, 1, 1), lot);
        }
        CHECKS.refused("a further lot than 30", ship, STATE, () -> ship.buy(0, 1, 1));
        ship.discard(0, 1000);
        ship.pass(1);
        CHECKS.refused("in no port", ship, STATE, () -> ship.buy(0, 1, 1));
    }

    private static void move() {
        ShipStores ship = Ships.inPort();
        ship.buy(0, 100, 0);
        ship.buy(1, 50, 1);
        ship.pass(1);
        CHECKS.undoable("move(0, 100, 2)", ship, 0, () -> ship.move(0, 100, 2));
        lotIs(ship, 0, 0, 2, 100, 100, 90, 0);
        CHECKS.undoable("move(0, 99, 1)", ship, 2, () -> ship.move(0, 99, 1));
        lotIs(ship, 0, 0, 2, 1, 100, 90, 1);
        lotIs(ship, 2, 0, 1, 99, 100, 18, 0);
        CHECKS.undoable("to a store where its life is 0", ship, 1, () -> ship.move(1, 50, 0));
        lotIs(ship, 1, 1, 0, 50, 250, 1, 0);
        kindIs(ship, 0, 100, 0, 0, 0, 100, 0, 2);
        CHECKS.equal("pass", ship.pass(1), 50);
        kindIs(ship, 1, 50, 0, 50, 0, 0, 0, 0);
    }

    private static void moveIsRefused() {
        ShipStores ship = Ships.inPort();
        ship.buy(0, 1000, 0);
        ship.buy(0, 10, 1);
        for (int bad : new int[] {-1, 2, Integer.MIN_VALUE, Integer.MAX_VALUE}) {
            CHECKS.refused("move(" + bad + ", 1, 1)", ship, INDEX, () -> ship.move(bad, 1, 1));
            CHECKS.refused("move(" + bad + ", 0, 1)", ship, INDEX, () -> ship.move(bad, 0, 1));
        }
        for (int bad : new int[] {-1, 3, Integer.MIN_VALUE, Integer.MAX_VALUE}) {
            CHECKS.refused("move(0, 1, " + bad + ")", ship, INDEX, () -> ship.move(0, 1, bad));
            CHECKS.refused("move(0, 1001, " + bad + ")", ship, INDEX, () -> ship.move(0, 1001, bad));
        }
        for (int bad : new int[] {0, -1, 1001, Integer.MIN_VALUE, Integer.MAX_VALUE}) {
            CHECKS.refused("move(0, " + bad + ", 1)", ship, ARGUMENT, () -> ship.move(0, bad, 1));
        }
        CHECKS.refused("the lot is in this store", ship, ARGUMENT, () -> ship.move(0, 1, 0));
        CHECKS.refused("all of it is in this store", ship, ARGUMENT, () -> ship.move(0, 1000, 0));
        CHECKS.refused("too little room for all", ship, STATE, () -> ship.move(0, 1000, 1));
        CHECKS.refused("too little room for some", ship, STATE, () -> ship.move(0, 991, 1));
        CHECKS.equal("just room enough", ship.move(0, 990, 1), 2);
        for (int lot = 3; lot < 30; lot++) {
            ship.buy(0, 2, 2);
        }
        CHECKS.refused("a part with 30 lots", ship, STATE, () -> ship.move(3, 1, 0));
        CHECKS.equal("a whole lot of 30", ship.move(3, 2, 0), 3);
    }

    private static void discard() {
        ShipStores ship = Ships.inPort();
        ship.buy(0, 100, 0);
        ship.buy(1, 50, 1);
        ship.buy(0, 7, 2);
        CHECKS.undoable("discard(0, 99)", ship, 58, () -> ship.discard(0, 99));
        lotIs(ship, 0, 0, 0, 1);
        kindIs(ship, 0, 106 + 1, 0, 0, 99, 8, 0, 2);
        CHECKS.undoable("discard(1, 50)", ship, 8, () -> ship.discard(1, 50));
        CHECKS.equal("lots", ship.count(2), 2);
        lotIs(ship, 1, 0, 2, 7);
        kindIs(ship, 1, 50, 0, 0, 50, 0, 0, 0);
        for (int bad : new int[] {0, -1, 8, Integer.MIN_VALUE, Integer.MAX_VALUE}) {
            CHECKS.refused("discard(1, " + bad + ")", ship, ARGUMENT, () -> ship.discard(1, bad));
        }
        for (int bad : new int[] {-1, 2, Integer.MIN_VALUE, Integer.MAX_VALUE}) {
            CHECKS.refused("discard(" + bad + ", 1)", ship, INDEX, () -> ship.discard(bad, 1));
            CHECKS.refused("discard(" + bad + ", 0)", ship, INDEX, () -> ship.discard(bad, 0));
        }
        CHECKS.equal("discard(0, 1)", ship.discard(0, 1), 7);
        CHECKS.equal("discard(0, 7)", ship.discard(0, 7), 0);
    }

    private static void passAges() {
        ShipStores ship = new ShipStores();
        ship.addKind(7, 30, 200);
        ship.addPort(0, 0);
        ship.setPrice(0, 0, 1);
        ship.buy(0, 5, 0);
        ship.buy(0, 6, 1);
        ship.buy(0, 7, 2);
        CHECKS.undoable("pass(1)", ship, 0, () -> ship.pass(1));
        CHECKS.equal("1000 / 7", ship.lot(0, 3), 142);
        CHECKS.equal("1000 / 30", ship.lot(1, 3), 33);
        CHECKS.equal("1000 / 200", ship.lot(2, 3), 5);
        CHECKS.equal("the day", ship.count(0), 1);
        CHECKS.equal("142 * 7 is 994", ship.pass(6), 0);
        CHECKS.equal("the eighth day spoils it", ship.pass(1), 5);
        CHECKS.equal("the others move up", ship.lot(0, 2), 6);
        ship.warm(1, 2);
        CHECKS.equal("its age", ship.lot(0, 3), 8 * 33);
        ship.pass(3);
        CHECKS.equal("two warm days and a cool one", ship.lot(0, 3), 9 * 33 + 2 * 142);
        CHECKS.equal("frozen all the time", ship.lot(1, 3), 11 * 5);
        CHECKS.undoable("pass(60)", ship, 6, () -> ship.pass(60));
        kindIs(ship, 0, 18, 0, 11, 0, 7, 0, 1);
        CHECKS.equal("nobody was hungry", ship.count(8), 0);
    }

    private static void passServes() {
        ShipStores ship = Ships.inPort();
        ship.setCrew(3);
        Checks.serve(ship, "0*2;-;0*1,1*1");
        ship.buy(0, 10, 0);
        ship.pass(2);
        kindIs(ship, 0, 10, 6, 0, 0, 4, 0, 1);
        ship.pass(1);
        kindIs(ship, 0, 10, 9, 0, 0, 1, 0, 1);
        kindIs(ship, 1, 0, 0, 0, 0, 0, 3, 0);
        CHECKS.equal("one hungry day", ship.count(8), 1);
        CHECKS.undoable("pass(3)", ship, 0, () -> ship.pass(3));
        kindIs(ship, 0, 10, 10, 0, 0, 0, 5 + 3, 0);
        kindIs(ship, 1, 0, 0, 0, 0, 0, 6, 0);
        CHECKS.equal("three hungry days", ship.count(8), 3);
        CHECKS.equal("the day", ship.count(0), 6);
    }

    private static void passTakesSubstitutes() {
        ShipStores ship = Ships.inPort();
        ship.buy(0, 4, 0);
        ship.buy(1, 25, 2);
        Checks.serve(ship, "0*1/1");
        ship.pass(1);
        kindIs(ship, 0, 4, 4, 0, 0, 0, 0, 0);
        kindIs(ship, 1, 25, 6, 0, 0, 19, 0, 1);
        CHECKS.equal("nobody was hungry", ship.count(8), 0);
        ship.pass(2);
        kindIs(ship, 0, 4, 4, 0, 0, 0, 1, 0);
        kindIs(ship, 1, 25, 25, 0, 0, 0, 0, 0);
        CHECKS.equal("a hungry day", ship.count(8), 1);
    }

    private static void passEatsFirstWhatExpiresFirst() {
        ShipStores ship = Ships.inPort();
        ship.setCrew(1);
        Checks.serve(ship, "0*5");
        ship.buy(0, 8, 2);
        ship.buy(0, 4, 1);
        ship.buy(0, 3, 0);
        ship.buy(0, 6, 1);
        ship.pass(1);
        CHECKS.equal("lots", ship.count(2), 3);
        lotIs(ship, 0, 0, 2, 8, 10, 99, 2);
        lotIs(ship, 1, 0, 1, 2, 50, 19, 0);
        lotIs(ship, 2, 0, 1, 6, 50, 19, 1);
        ship.pass(1);
        lotIs(ship, 1, 0, 1, 3);
        ship.warm(1, 10);
        CHECKS.equal("of several the lowest number", ship.lot(1, 5), 0);
        ship.warm(2, 30);
        CHECKS.equal("both warm: the fresh one keeps longer", ship.lot(0, 5), 1);
    }

    private static void passInOrder() {
        ShipStores ship = Ships.inPort();
        Checks.serve(ship, "1*1");
        ship.setCrew(3);
        ship.buy(1, 12, 1);
        ship.pass(3);
        CHECKS.equal("eaten on the last morning, so nothing spoils", ship.pass(1), 0);
        ship.undo();
        ship.setCrew(2);
        CHECKS.equal("a ration is left and spoils", ship.pass(1), 1);
        CHECKS.equal("no lot is left", ship.count(2), 0);
        ShipStores warm = Ships.inPort();
        warm.buy(1, 5, 1);
        warm.warm(1, 1);
        CHECKS.equal("warm on its only day, with a life of 0", warm.pass(1), 5);
        CHECKS.equal("no longer warm", warm.store(1, 3), 0);
    }

    private static void passIsRefused() {
        ShipStores ship = Ships.inPort();
        for (int bad : new int[] {0, -1, 61, Integer.MIN_VALUE, Integer.MAX_VALUE}) {
            CHECKS.refused("pass(" + bad + ")", ship, ARGUMENT, () -> ship.pass(bad));
        }
    }
}
