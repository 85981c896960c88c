/** Promises 19 to 24. */
public final class PropertiesTest {
    private static final Class<IllegalArgumentException> ARGUMENT = IllegalArgumentException.class;
    private static final Class<IndexOutOfBoundsException> INDEX = IndexOutOfBoundsException.class;
    private static final int[] FAR = {-1, Integer.MIN_VALUE, Integer.MAX_VALUE};
    private static final Checks CHECKS = new Checks();

    public static void main(String[] args) {
        lot();
        daysLeft();
        eatingPlace();
        theLastLot();
        store();
        kind();
        port();
        menu();
        count();
        CHECKS.end("PropertiesTest");
    }

    private static void lot() {
        ShipStores ship = Ships.inPort();
        ship.buy(0, 100, 0);
        ship.buy(1, 50, 1);
        ship.pass(1);
        int[][] due = {{0, 0, 100, 100, 9, 0}, {1, 1, 50, 250, 3, 0}};
        for (int lot = 0; lot < 2; lot++) {
            for (int what = 0; what <= 5; what++) {
                CHECKS.equal("lot(" + lot + ", " + what + ")", ship.lot(lot, what), due[lot][what]);
            }
        }
        for (int bad : FAR) {
            CHECKS.refused("lot(0, " + bad + ")", ship, ARGUMENT, () -> ship.lot(0, bad));
            CHECKS.refused("lot(" + bad + ", 0)", ship, INDEX, () -> ship.lot(bad, 0));
        }
        CHECKS.refused("lot(0, 6)", ship, ARGUMENT, () -> ship.lot(0, 6));
        CHECKS.refused("lot(2, 0)", ship, INDEX, () -> ship.lot(2, 0));
        CHECKS.refused("lot(2, 6)", ship, INDEX, () -> ship.lot(2, 6));
    }

    /** Lets the days pass that are told to be left: the lot is there until the last of them. */
    private static void daysLeft() {
        for (int warmDays = 0; warmDays <= 30; warmDays += 3) {
            for (int staleness = 0; staleness <= 900; staleness += 90) {
                for (int[] lives : new int[][] {{10, 30, 100}, {0, 7, 60}, {200, 3, 0}, {1, 200, 13}, {6, 6, 6}}) {
                    for (int store = 0; store < 3; store++) {
                        checkDaysLeft(lives, warmDays, staleness, store);
                    }
                }
            }
        }
    }

    private static void checkDaysLeft(int[] lives, int warmDays, int staleness, int store) {
        ShipStores ship = new ShipStores();
        ship.addKind(lives[0], lives[1], lives[2]);
        ship.addPort(0, staleness);
        ship.setPrice(0, 0, 1);
        int sold = lives[0] > 0 ? 0 : 1;
        ship.buy(0, 1, sold);
        if (store != sold) {
            ship.move(0, 1, store);
        }
        ship.warm(1, warmDays);
        ship.warm(2, warmDays);
        int left = ship.lot(0, 4);
        CHECKS.holds("days left are above 0", left > 0);
        for (int day = left; day > 0 && ship.count(2) == 1; day--) {
            CHECKS.equal("days left", ship.lot(0, 4), day);
            CHECKS.equal("it spoils on the last day", ship.pass(1), day == 1 ? 1 : 0);
        }
        CHECKS.equal("it is gone", ship.count(2), 0);
    }

    private static void eatingPlace() {
        ShipStores ship = Ships.inPort();
        ship.buy(0, 1, 2);
        ship.buy(0, 1, 0);
        ship.buy(1, 1, 1);
        ship.buy(0, 1, 1);
        ship.buy(0, 1, 0);
        int[] places = {3, 0, 0, 2, 1};
        for (int lot = 0; lot < places.length; lot++) {
            CHECKS.equal("its place", ship.lot(lot, 5), places[lot]);
        }
        ship.warm(2, 30);
        int[] warm = {0, 1, 0, 3, 2};
        for (int lot = 0; lot < warm.length; lot++) {
            CHECKS.equal("its place with 2 warm", ship.lot(lot, 5), warm[lot]);
        }
    }

    /** 30 lots, the last of which differs from all that are before it. */
    private static void theLastLot() {
        ShipStores ship = Ships.inPort();
        for (int lot = 0; lot < 28; lot++) {
            ship.buy(0, 1, 0);
        }
        ship.buy(1, 7, 1);
        ship.removePort(0);
        ship.addPort(0, 800);
        ship.setPrice(0, 1, 1);
        ship.buy(1, 9, 2);
        int[] due = {1, 2, 9, 800, 10, 1};
        for (int what = 0; what <= 5; what++) {
            CHECKS.equal("lot(29, " + what + ")", ship.lot(29, what), due[what]);
        }
        ship.setCrew(1);
        ship.warm(2, 1);
        Checks.serve(ship, "1*8");
        ship.pass(1);
        CHECKS.equal("it was eaten first", ship.kind(1, 5), 1);
        CHECKS.equal("the other is left", ship.kind(1, 7), 7);
        CHECKS.equal("29 lots are left", ship.count(2), 29);
    }

    private static void store() {
        ShipStores ship = Ships.inPort();
        ship.buy(0, 100, 1);
        ship.buy(1, 50, 1);
        ship.buy(0, 7, 2);
        ship.warm(2, 9);
        ship.setRoom(1, 333);
        int[][] due = {{1000, 0, 0, 0}, {333, 150, 2, 0}, {1000, 7, 1, 9}};
        for (int store = 0; store < 3; store++) {
            for (int what = 0; what <= 3; what++) {
                CHECKS.equal("store(" + store + ", " + what + ")", ship.store(store, what), due[store][what]);
            }
        }
        for (int bad : FAR) {
            CHECKS.refused("store(0, " + bad + ")", ship, ARGUMENT, () -> ship.store(0, bad));
            CHECKS.refused("store(" + bad + ", 0)", ship, INDEX, () -> ship.store(bad, 0));
        }
        CHECKS.refused("store(0, 4)", ship, ARGUMENT, () -> ship.store(0, 4));
        CHECKS.refused("store(3, 4)", ship, INDEX, () -> ship.store(3, 4));
    }

    private static void kind() {
        ShipStores ship = Ships.inPort();
        ship.buy(0, 12, 0);
        ship.buy(0, 30, 1);
        ship.buy(1, 20, 1);
        ship.buy(1, 9, 2);
        ship.discard(2, 5);
        Checks.serve(ship, "0*2;1*1/0;1*9");
        ship.warm(1, 4);
        int[][] lives = {{10, 20, 100}, {0, 4, 50}};
        int[][] before = {{42, 0, 0, 0, 42, 0, 2}, {29, 0, 0, 5, 24, 0, 2}};
        checkKinds(ship, lives, before);
        ship.pass(1);
        int[][] dayAfter = {{42, 20, 0, 0, 22, 0, 1}, {29, 0, 15, 5, 9, 0, 1}};
        checkKinds(ship, lives, dayAfter);
        ship.pass(2);
        int[][] then = {{42, 21, 0, 0, 21, 0, 1}, {29, 9, 15, 5, 0, 90, 0}};
        checkKinds(ship, lives, then);
        for (int bad : FAR) {
            CHECKS.refused("kind(0, " + bad + ")", ship, ARGUMENT, () -> ship.kind(0, bad));
            CHECKS.refused("kind(" + bad + ", 0)", ship, INDEX, () -> ship.kind(bad, 0));
        }
        CHECKS.refused("kind(0, 10)", ship, ARGUMENT, () -> ship.kind(0, 10));
        CHECKS.refused("kind(2, 0)", ship, INDEX, () -> ship.kind(2, 0));
        CHECKS.refused("kind(2, 10)", ship, INDEX, () -> ship.kind(2, 10));
    }

    private static void checkKinds(ShipStores ship, int[][] lives, int[][] accounts) {
        for (int kind = 0; kind < lives.length; kind++) {
            for (int what = 0; what < 3; what++) {
                CHECKS.equal("kind(" + kind + ", " + what + ")", ship.kind(kind, what), lives[kind][what]);
            }
            for (int what = 3; what <= 9; what++) {
                CHECKS.equal("kind(" + kind + ", " + what + ")", ship.kind(kind, what), accounts[kind][what - 3]);
            }
            int used = ship.kind(kind, 4) + ship.kind(kind, 5) + ship.kind(kind, 6) + ship.kind(kind, 7);
            CHECKS.equal("the account adds up", used, ship.kind(kind, 3));
        }
    }

    private static void port() {
        ShipStores ship = Ships.inPort();
        ship.addPort(77, 123);
        ship.setPrice(1, 1, 100);
        int[][] due = {{0, 0, 1, 1}, {77, 123, 0, 100}};
        int[] whats = {0, 1, 10, 11};
        for (int port = 0; port < 2; port++) {
            for (int index = 0; index < whats.length; index++) {
                CHECKS.equal("port(" + port + ", " + whats[index] + ")", ship.port(port, whats[index]), due[port][index]);
            }
        }
        for (int bad : new int[] {-1, 2, 3, 9, 12, 17, 18, Integer.MIN_VALUE, Integer.MAX_VALUE}) {
            CHECKS.refused("port(0, " + bad + ")", ship, ARGUMENT, () -> ship.port(0, bad));
            CHECKS.refused("port(2, " + bad + ")", ship, INDEX, () -> ship.port(2, bad));
        }
        for (int bad : FAR) {
            CHECKS.refused("port(" + bad + ", 0)", ship, INDEX, () -> ship.port(bad, 0));
        }
        ShipStores bare = new ShipStores();
        bare.addPort(1, 2);
        CHECKS.refused("a price without kinds", bare, ARGUMENT, () -> bare.port(0, 10));
    }

    private static void menu() {
        ShipStores ship = Ships.inPort();
        Checks.serve(ship, "1*9/0,0*2;-");
        int none = ShipStores.NONE;
        int[][][] due = {{{1, 9, 0}, {0, 2, none}, {none, none, none}, {none, none, none}},
            {{none, none, none}, {none, none, none}, {none, none, none}, {none, none, none}}};
        for (int menu = 0; menu < 2; menu++) {
            for (int item = 0; item < 4; item++) {
                for (int what = 0; what <= 2; what++) {
                    CHECKS.equal("menu(" + menu + ", " + item + ", " + what + ")", ship.menu(menu, item, what),
                        due[menu][item][what]);
                }
            }
        }
        for (int bad : FAR) {
            CHECKS.refused("menu(" + bad + ", 0, 0)", ship, INDEX, () -> ship.menu(bad, 0, 0));
            CHECKS.refused("menu(0, " + bad + ", 0)", ship, INDEX, () -> ship.menu(0, bad, 0));
            CHECKS.refused("menu(0, 0, " + bad + ")", ship, ARGUMENT, () -> ship.menu(0, 0, bad));
        }
        CHECKS.refused("menu(2, 0, 3)", ship, INDEX, () -> ship.menu(2, 0, 3));
        CHECKS.refused("menu(0, 4, 3)", ship, INDEX, () -> ship.menu(0, 4, 3));
        CHECKS.refused("menu(0, 0, 3)", ship, ARGUMENT, () -> ship.menu(0, 0, 3));
        CHECKS.refused("menu(0, 3, 3), where no item is", ship, ARGUMENT, () -> ship.menu(0, 3, 3));
    }

    private static void count() {
        ShipStores ship = Ships.inPort();
        ship.addPort(2, 0);
        ship.addPort(9, 0);
        ship.setCrew(4);
        ship.buy(0, 5, 0);
        ship.buy(1, 3, 1);
        Checks.serve(ship, "0*1;1*1");
        countsAre(ship, 0, 2, 2, 3, 2, 4, 9992, 8, 0, 6, 0, 1, 8);
        ship.pass(1);
        countsAre(ship, 1, 2, 2, 3, 2, 4, 9992, 8, 0, 6, ShipStores.NONE, 1, 4);
        ship.pass(1);
        countsAre(ship, 2, 2, 1, 3, 2, 4, 9992, 8, 1, 6, 1, 2, 1);
        ship.pass(7);
        countsAre(ship, 9, 2, 0, 3, 2, 4, 9992, 8, 8, 6, 2, ShipStores.NONE, 0);
        ship.undo();
        countsAre(ship, 2, 2, 1, 3, 2, 4, 9992, 8, 1, 5, 1, 2, 1);
        for (int bad : new int[] {-1, 13, Integer.MIN_VALUE, Integer.MAX_VALUE}) {
            CHECKS.refused("count(" + bad + ")", ship, ARGUMENT, () -> ship.count(bad));
        }
    }

    private static void countsAre(ShipStores ship, int... due) {
        for (int what = 0; what < due.length; what++) {
            CHECKS.equal("count(" + what + ")", ship.count(what), due[what]);
        }
    }
}
