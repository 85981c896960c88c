/** Promises 1 to 9. */
public final class KindsStoresPortsTest {
    private static final Class<IllegalArgumentException> ARGUMENT = IllegalArgumentException.class;
    private static final Class<IllegalStateException> STATE = IllegalStateException.class;
    private static final Class<IndexOutOfBoundsException> INDEX = IndexOutOfBoundsException.class;
    private static final Checks CHECKS = new Checks();

    public static void main(String[] args) {
        aNewObject();
        addKind();
        setRoom();
        warm();
        setCrew();
        pay();
        addPort();
        removePort();
        setPrice();
        CHECKS.end("KindsStoresPortsTest");
    }

    private static void aNewObject() {
        ShipStores ship = new ShipStores();
        int[] counts = {0, 0, 0, 0, 1, 10, 10000, 0, 0, 0, ShipStores.NONE, ShipStores.NONE, 0};
        for (int what = 0; what < counts.length; what++) {
            CHECKS.equal("new: count(" + what + ")", ship.count(what), counts[what]);
        }
        int[] properties = {1000, 0, 0, 0};
        for (int store = 0; store < 3; store++) {
            for (int what = 0; what < properties.length; what++) {
                CHECKS.equal("new: store(" + store + ", " + what + ")", ship.store(store, what), properties[what]);
            }
        }
        for (int item = 0; item < 4; item++) {
            for (int what = 0; what <= 2; what++) {
                CHECKS.equal("new: menu(0, " + item + ", " + what + ")", ship.menu(0, item, what), ShipStores.NONE);
            }
        }
        CHECKS.refused("new: undo", ship, STATE, ship::undo);
        CHECKS.refused("new: kind", ship, INDEX, () -> ship.kind(0, 0));
        CHECKS.refused("new: lot", ship, INDEX, () -> ship.lot(0, 0));
        CHECKS.refused("new: port", ship, INDEX, () -> ship.port(0, 0));
        CHECKS.refused("new: menu", ship, INDEX, () -> ship.menu(1, 0, 0));
        CHECKS.equal("new: clearBuffer", ship.clearBuffer(), 0);
    }

    private static void addKind() {
        ShipStores ship = new ShipStores();
        CHECKS.undoable("addKind(0, 200, 7)", ship, 0, () -> ship.addKind(0, 200, 7));
        CHECKS.equal("life dry", ship.kind(0, 0), 0);
        CHECKS.equal("life cool", ship.kind(0, 1), 200);
        CHECKS.equal("life frozen", ship.kind(0, 2), 7);
        for (int what = 3; what <= 9; what++) {
            CHECKS.equal("kind(0, " + what + ") of a new kind", ship.kind(0, what), 0);
        }
        for (int bad : new int[] {-1, 201, Integer.MIN_VALUE, Integer.MAX_VALUE}) {
            CHECKS.refused("addKind(" + bad + ", 1, 1)", ship, ARGUMENT, () -> ship.addKind(bad, 1, 1));
            CHECKS.refused("addKind(1, " + bad + ", 1)", ship, ARGUMENT, () -> ship.addKind(1, bad, 1));
            CHECKS.refused("addKind(1, 1, " + bad + ")", ship, ARGUMENT, () -> ship.addKind(1, 1, bad));
        }
        for (int kind = 1; kind < 8; kind++) {
            CHECKS.equal("addKind", ship.addKind(kind, kind + 1, kind + 2), kind);
        }
        CHECKS.equal("8 kinds", ship.count(1), 8);
        CHECKS.equal("the last kind", ship.kind(7, 1), 8);
        CHECKS.refused("a ninth kind", ship, STATE, () -> ship.addKind(1, 1, 1));
        CHECKS.refused("a ninth kind with a wrong life", ship, ARGUMENT, () -> ship.addKind(1, 1, 201));
    }

    private static void setRoom() {
        ShipStores ship = Ships.inPort();
        CHECKS.undoable("setRoom(2, 5000)", ship, 1000, () -> ship.setRoom(2, 5000));
        CHECKS.equal("the room of 2", ship.store(2, 0), 5000);
        CHECKS.equal("the room of 1", ship.store(1, 0), 1000);
        CHECKS.equal("setRoom(2, 0)", ship.setRoom(2, 0), 5000);
        CHECKS.equal("setRoom(0, 300)", ship.setRoom(0, 300), 1000);
        ship.buy(0, 70, 1);
        ship.buy(1, 30, 1);
        ship.buy(0, 200, 0);
        CHECKS.refused("setRoom(1, 99)", ship, STATE, () -> ship.setRoom(1, 99));
        CHECKS.equal("setRoom(1, 100)", ship.setRoom(1, 100), 1000);
        for (int bad : new int[] {-1, 5001, Integer.MIN_VALUE, Integer.MAX_VALUE}) {
            CHECKS.refused("setRoom(1, " + bad + ")", ship, ARGUMENT, () -> ship.setRoom(1, bad));
            CHECKS.refused("setRoom(3, " + bad + ")", ship, INDEX, () -> ship.setRoom(3, bad));
        }
        for (int bad : new int[] {-1, 3, Integer.MIN_VALUE, Integer.MAX_VALUE}) {
            CHECKS.refused("setRoom(" + bad + ", 1000)", ship, INDEX, () -> ship.setRoom(bad, 1000));
        }
    }

    private static void warm() {
        ShipStores ship = Ships.inPort();
        CHECKS.undoable("warm(1, 30)", ship, 0, () -> ship.warm(1, 30));
        CHECKS.undoable("warm(2, 2)", ship, 0, () -> ship.warm(2, 2));
        CHECKS.equal("warm days of 1", ship.store(1, 3), 30);
        ship.pass(1);
        CHECKS.equal("warm days of 1 a day later", ship.store(1, 3), 29);
        CHECKS.equal("warm(2, 0)", ship.warm(2, 0), 1);
        CHECKS.equal("warm(1, 3)", ship.warm(1, 3), 29);
        for (int bad : new int[] {0, -1, 3, Integer.MIN_VALUE, Integer.MAX_VALUE}) {
            CHECKS.refused("warm(" + bad + ", 1)", ship, INDEX, () -> ship.warm(bad, 1));
            CHECKS.refused("warm(" + bad + ", 31)", ship, INDEX, () -> ship.warm(bad, 31));
        }
        for (int bad : new int[] {-1, 31, Integer.MIN_VALUE, Integer.MAX_VALUE}) {
            CHECKS.refused("warm(1, " + bad + ")", ship, ARGUMENT, () -> ship.warm(1, bad));
        }
    }

    private static void setCrew() {
        ShipStores ship = new ShipStores();
        CHECKS.undoable("setCrew(100)", ship, 10, () -> ship.setCrew(100));
        CHECKS.equal("setCrew(1)", ship.setCrew(1), 100);
        CHECKS.equal("heads", ship.count(5), 1);
        CHECKS.undoable("the same crew again", ship, 1, () -> ship.setCrew(1));
        for (int bad : new int[] {0, -1, 101, Integer.MIN_VALUE, Integer.MAX_VALUE}) {
            CHECKS.refused("setCrew(" + bad + ")", ship, ARGUMENT, () -> ship.setCrew(bad));
        }
    }

    private static void pay() {
        ShipStores ship = new ShipStores();
        CHECKS.undoable("pay(-10000)", ship, 0, () -> ship.pay(-10000));
        CHECKS.refused("pay(-1)", ship, ARGUMENT, () -> ship.pay(-1));
        CHECKS.equal("pay(1000000)", ship.pay(1000000), 1000000);
        CHECKS.equal("the purse", ship.count(6), 1000000);
        CHECKS.undoable("pay(0)", ship, 1000000, () -> ship.pay(0));
        for (int bad : new int[] {1, -1000001, Integer.MIN_VALUE, Integer.MAX_VALUE}) {
            CHECKS.refused("pay(" + bad + ")", ship, ARGUMENT, () -> ship.pay(bad));
        }
        CHECKS.equal("nothing was spent for food", ship.count(7), 0);
    }

    private static void addPort() {
        ShipStores ship = new ShipStores();
        ship.addKind(1, 1, 1);
        CHECKS.undoable("addPort(250, 0)", ship, 0, () -> ship.addPort(250, 0));
        ship.setPrice(0, 0, 25);
        CHECKS.undoable("addPort(500, 900)", ship, 1, () -> ship.addPort(500, 900));
        ship.setPrice(1, 0, 50);
        CHECKS.undoable("addPort(0, 300)", ship, 0, () -> ship.addPort(0, 300));
        int[][] due = {{0, 300, 0}, {250, 0, 25}, {500, 900, 50}};
        for (int port = 0; port < 3; port++) {
            CHECKS.equal("its day", ship.port(port, 0), due[port][0]);
            CHECKS.equal("its staleness", ship.port(port, 1), due[port][1]);
            CHECKS.equal("its price", ship.port(port, 10), due[port][2]);
        }
        CHECKS.refused("a port with that day", ship, STATE, () -> ship.addPort(250, 1));
        for (int bad : new int[] {-1, 501, Integer.MIN_VALUE, Integer.MAX_VALUE}) {
            CHECKS.refused("addPort(" + bad + ", 0)", ship, ARGUMENT, () -> ship.addPort(bad, 0));
        }
        for (int bad : new int[] {-1, 901, Integer.MIN_VALUE, Integer.MAX_VALUE}) {
            CHECKS.refused("addPort(7, " + bad + ")", ship, ARGUMENT, () -> ship.addPort(7, bad));
            CHECKS.refused("addPort(250, " + bad + ")", ship, ARGUMENT, () -> ship.addPort(250, bad));
        }
        for (int port = 3; port < 8; port++) {
            CHECKS.equal("addPort", ship.addPort(250 + port, 0), port - 1);
        }
        CHECKS.equal("8 ports", ship.count(3), 8);
        CHECKS.refused("a ninth port", ship, STATE, () -> ship.addPort(7, 0));
        ship.removePort(1);
        CHECKS.equal("a port where one was", ship.addPort(250, 1), 1);
        CHECKS.equal("it has no price", ship.port(1, 10), 0);
        ship.removePort(7);
        CHECKS.equal("a last port where one was", ship.addPort(500, 1), 7);
        CHECKS.equal("it has no price either", ship.port(7, 10), 0);
    }

    private static void removePort() {
        ShipStores ship = new ShipStores();
        ship.addKind(1, 1, 1);
        for (int port = 0; port < 4; port++) {
            ship.addPort(10 * port, port);
            ship.setPrice(port, 0, port + 1);
        }
        CHECKS.undoable("removePort(1)", ship, 10, () -> ship.removePort(1));
        int[][] due = {{0, 0, 1}, {20, 2, 3}, {30, 3, 4}};
        for (int port = 0; port < 3; port++) {
            CHECKS.equal("its day", ship.port(port, 0), due[port][0]);
            CHECKS.equal("its staleness", ship.port(port, 1), due[port][1]);
            CHECKS.equal("its price", ship.port(port, 10), due[port][2]);
        }
        CHECKS.equal("ports", ship.count(3), 3);
        for (int bad : new int[] {-1, 3, Integer.MIN_VALUE, Integer.MAX_VALUE}) {
            CHECKS.refused("removePort(" + bad + ")", ship, INDEX, () -> ship.removePort(bad));
        }
        CHECKS.equal("removePort(2)", ship.removePort(2), 30);
        CHECKS.equal("removePort(0)", ship.removePort(0), 0);
        CHECKS.equal("removePort(0)", ship.removePort(0), 20);
        CHECKS.refused("no port is left", ship, INDEX, () -> ship.removePort(0));
    }

    private static void setPrice() {
        ShipStores ship = new ShipStores();
        ship.addKind(1, 1, 1);
        ship.addKind(2, 2, 2);
        ship.addPort(3, 0);
        ship.addPort(8, 0);
        CHECKS.undoable("setPrice(1, 0, 100)", ship, 0, () -> ship.setPrice(1, 0, 100));
        CHECKS.equal("setPrice(1, 0, 7)", ship.setPrice(1, 0, 7), 100);
        CHECKS.equal("that price", ship.port(1, 10), 7);
        CHECKS.equal("the other kind", ship.port(1, 11), 0);
        CHECKS.equal("the other port", ship.port(0, 10), 0);
        CHECKS.equal("setPrice(1, 0, 0)", ship.setPrice(1, 0, 0), 7);
        for (int bad : new int[] {-1, 2, Integer.MIN_VALUE, Integer.MAX_VALUE}) {
            CHECKS.refused("setPrice(" + bad + ", 0, 1)", ship, INDEX, () -> ship.setPrice(bad, 0, 1));
            CHECKS.refused("setPrice(0, " + bad + ", 1)", ship, INDEX, () -> ship.setPrice(0, bad, 1));
        }
        for (int bad : new int[] {-1, 101, Integer.MIN_VALUE, Integer.MAX_VALUE}) {
            CHECKS.refused("setPrice(0, 0, " + bad + ")", ship, ARGUMENT, () -> ship.setPrice(0, 0, bad));
            CHECKS.refused("setPrice(0, 2, " + bad + ")", ship, INDEX, () -> ship.setPrice(0, 2, bad));
            CHECKS.refused("setPrice(2, 0, " + bad + ")", ship, INDEX, () -> ship.setPrice(2, 0, bad));
        }
    }
}
