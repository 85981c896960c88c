/** Ships that tests begin with. */
final class Ships {
    private Ships() {
    }

    /** On the day 0 in a port where two kinds are sold fresh for a coin; the dry store spoils the second at once. */
    static ShipStores inPort() {
        ShipStores ship = new ShipStores();
        ship.addKind(10, 20, 100);
        ship.addKind(0, 4, 50);
        ship.addPort(0, 0);
        ship.setPrice(0, 0, 1);
        ship.setPrice(0, 1, 1);
        return ship;
    }
}
