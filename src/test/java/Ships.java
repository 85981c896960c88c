/** Ships that tests begin with. */
final class Ships {
    private Ships() {
    }

    /** On the day 0 in a port where two kinds are sold fresh for a coin; the dry store spoils the second at once. */
    static ShipStores inPort() {
        return inPortOn(0);
    }

    /** The same on the day 0, but the port has another day. */
    static ShipStores inPortOn(int day) {
        ShipStores ship = new ShipStores();
        ship.addKind(10, 20, 100);
        ship.addKind(0, 4, 50);
        ship.addPort(day, 0);
        ship.setPrice(0, 0, 1);
        ship.setPrice(0, 1, 1);
        return ship;
    }

    /** On the day 0 in a port where kinds with these lives are sold for a coin, with this age; the crew is one head. */
    static ShipStores selling(int staleness, int[]... lives) {
        ShipStores ship = new ShipStores();
        ship.setCrew(1);
        ship.addPort(0, staleness);
        for (int[] life : lives) {
            ship.setPrice(0, ship.addKind(life[0], life[1], life[2]), 1);
        }
        return ship;
    }

    static int[] lives(int dry, int cool, int frozen) {
        return new int[] {dry, cool, frozen};
    }

    static ShipStores withKinds(int number) {
        ShipStores ship = new ShipStores();
        for (int kind = 0; kind < number; kind++) {
            ship.addKind(1, 2, 3);
        }
        return ship;
    }

    /** The ports are 10 days from one another. */
    static ShipStores withPorts(int number) {
        ShipStores ship = new ShipStores();
        for (int port = 0; port < number; port++) {
            ship.addPort(10 * port, 0);
        }
        return ship;
    }

    /** Like inPort, with as many lots, each of 10 rations of the kind 0 in the store 2. */
    static ShipStores withLots(int number) {
        ShipStores ship = inPort();
        for (int lot = 0; lot < number; lot++) {
            ship.buy(0, 10, 2);
        }
        return ship;
    }

    static ShipStores withBuffer(String text) {
        ShipStores ship = inPort();
        Checks.write(ship, text);
        return ship;
    }

    static ShipStores withMenus(String menus) {
        ShipStores ship = inPort();
        Checks.serve(ship, menus);
        return ship;
    }

    /**
     * On the day 0 in the port 0, with as much of all as there can be: 8 kinds, 8 ports, 30 lots, 10 menus, 60
     * characters in the buffer, and 6 saved states, which all differ.
     */
    static ShipStores full() {
        ShipStores ship = withPorts(8);
        for (int kind = 0; kind < 8; kind++) {
            ship.addKind(10 + kind, 20 + kind, 100 + kind);
            ship.setPrice(0, kind, 1 + kind);
        }
        Checks.serve(ship, "0*1/7,1*1,2*1,3*1;1*2;2*2;3*2;4*2;5*2;6*2/0;7*2/1;-;7*9");
        for (int lot = 0; lot < 30; lot++) {
            ship.buy(lot % 8, 10 + lot, lot % 3);
        }
        Checks.write(ship, "0*1;".repeat(15));
        return ship;
    }
}
