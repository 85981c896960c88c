/** Promises 25 to 33. */
public final class ForecastsTest {
    private static final Class<IllegalArgumentException> ARGUMENT = IllegalArgumentException.class;
    private static final Class<IndexOutOfBoundsException> INDEX = IndexOutOfBoundsException.class;
    private static final int[] FAR = {-1, Integer.MIN_VALUE, Integer.MAX_VALUE};
    private static final Checks CHECKS = new Checks();

    public static void main(String[] args) {
        why();
        ifPass();
        spoils();
        shortIn();
        bestStore();
        leastPurchase();
        leastPurchaseLooksOnly();
        cheapest();
        meanAge();
        digest();
        digestOfParts();
        CHECKS.end("ForecastsTest");
    }

    private static void why() {
        ShipStores ship = Ships.inPort();
        for (int lot = 0; lot < 30; lot++) {
            ship.buy(0, 30, 2);
        }
        ship.pay(-9090);
        CHECKS.equal("30 lots", ship.why(0, 10, 1), 6);
        CHECKS.equal("too dear, with 30 lots", ship.why(0, 11, 1), 5);
        CHECKS.equal("too little room, too dear", ship.why(0, 101, 2), 4);
        CHECKS.equal("no life, too little room", ship.why(1, 2000, 0), 3);
        ship.warm(1, 1);
        CHECKS.equal("no life as it is warm", ship.why(1, 1, 1), 3);
        ship.setPrice(0, 1, 0);
        CHECKS.equal("not sold, no life", ship.why(1, 2000, 0), 2);
        long before = ship.digest();
        ship.why(0, 10, 1);
        CHECKS.equal("why changes nothing", ship.digest(), before);
        ship.pass(1);
        CHECKS.equal("no port, not sold", ship.why(1, 2000, 0), 1);
        ship.undo();
        ship.discard(0, 30);
        CHECKS.equal("not refused", ship.why(0, 10, 1), 0);
        ship.setPrice(0, 0, 5);
        CHECKS.equal("just not too dear", ship.why(0, 2, 1), 0);
        CHECKS.equal("too dear", ship.why(0, 3, 1), 5);
        ship.setRoom(1, 1);
        CHECKS.equal("too little room", ship.why(0, 2, 1), 4);
        CHECKS.equal("just room enough", ship.why(0, 1, 1), 0);
        for (int bad : FAR) {
            CHECKS.refused("why(" + bad + ", 0, 0)", ship, INDEX, () -> ship.why(bad, 0, 0));
            CHECKS.refused("why(0, 0, " + bad + ")", ship, INDEX, () -> ship.why(0, 0, bad));
            CHECKS.refused("why(0, " + bad + ", 0)", ship, ARGUMENT, () -> ship.why(0, bad, 0));
        }
        CHECKS.refused("why(2, 1, 0)", ship, INDEX, () -> ship.why(2, 1, 0));
        CHECKS.refused("why(0, 1, 3)", ship, INDEX, () -> ship.why(0, 1, 3));
        CHECKS.refused("why(0, 0, 0)", ship, ARGUMENT, () -> ship.why(0, 0, 0));
        CHECKS.refused("why(0, 2001, 0)", ship, ARGUMENT, () -> ship.why(0, 2001, 0));
    }

    /** Food of two kinds, a substitute, a warm store, spoiling and hunger. */
    private static ShipStores provisioned() {
        ShipStores ship = Ships.inPort();
        ship.buy(0, 60, 1);
        ship.buy(0, 55, 2);
        ship.buy(1, 35, 1);
        ship.buy(1, 90, 2);
        ship.warm(2, 3);
        Checks.serve(ship, "0*1/1;1*2;-");
        return ship;
    }

    private static void ifPass() {
        for (int days = 1; days <= 60; days++) {
            ShipStores ship = provisioned();
            int[] due = new int[5];
            long before = ship.digest();
            for (int what = 0; what <= 4; what++) {
                due[what] = ship.ifPass(days, what);
            }
            CHECKS.equal("ifPass changes nothing", ship.digest(), before);
            CHECKS.equal("spoiled in " + days, ship.pass(days), due[1]);
            CHECKS.equal("eaten in " + days, ship.kind(0, 4) + ship.kind(1, 4), due[0]);
            CHECKS.equal("short in " + days, ship.kind(0, 8) + ship.kind(1, 8), due[2]);
            CHECKS.equal("hungry in " + days, ship.count(8), due[3]);
            CHECKS.equal("rations after " + days, ship.count(12), due[4]);
        }
        ShipStores ship = provisioned();
        ship.pass(9);
        CHECKS.equal("eaten and short are what these days need, without those before",
            ship.ifPass(3, 0) + ship.ifPass(3, 2), 30);
        CHECKS.holds("days can be hungry", ship.ifPass(60, 3) > 0);
        ShipStores later = Ships.inPort();
        later.buy(1, 12, 1);
        Checks.serve(later, "0*1");
        later.pass(5);
        int[] due = {0, 0, 20, 2, 0};
        for (int what = 0; what <= 4; what++) {
            CHECKS.equal("what was before does not count: ifPass(2, " + what + ")", later.ifPass(2, what), due[what]);
        }
        for (int bad : new int[] {0, 61, -1, Integer.MIN_VALUE, Integer.MAX_VALUE}) {
            CHECKS.refused("ifPass(" + bad + ", 0)", ship, ARGUMENT, () -> ship.ifPass(bad, 0));
        }
        for (int bad : new int[] {-1, 5, Integer.MIN_VALUE, Integer.MAX_VALUE}) {
            CHECKS.refused("ifPass(1, " + bad + ")", ship, ARGUMENT, () -> ship.ifPass(1, bad));
        }
    }

    private static void spoils() {
        for (int days = 1; days <= 60; days++) {
            ShipStores ship = provisioned();
            ship.pass(3);
            long before = ship.digest();
            int first = ship.spoils(0, days);
            int second = ship.spoils(1, days);
            CHECKS.equal("spoils changes nothing", ship.digest(), before);
            first += ship.kind(0, 5);
            second += ship.kind(1, 5);
            ship.pass(days);
            CHECKS.equal("spoiled of 0 in " + days, ship.kind(0, 5), first);
            CHECKS.equal("spoiled of 1 in " + days, ship.kind(1, 5), second);
        }
        ShipStores ship = Ships.inPort();
        ship.buy(1, 40, 1);
        CHECKS.equal("spoils(1, 3)", ship.spoils(1, 3), 0);
        CHECKS.equal("spoils(1, 4)", ship.spoils(1, 4), 40);
        CHECKS.equal("spoils(0, 60)", ship.spoils(0, 60), 0);
        for (int bad : new int[] {0, 61, -1, Integer.MIN_VALUE, Integer.MAX_VALUE}) {
            CHECKS.refused("spoils(0, " + bad + ")", ship, ARGUMENT, () -> ship.spoils(0, bad));
            CHECKS.refused("spoils(2, " + bad + ")", ship, INDEX, () -> ship.spoils(2, bad));
        }
        for (int bad : FAR) {
            CHECKS.refused("spoils(" + bad + ", 1)", ship, INDEX, () -> ship.spoils(bad, 1));
        }
    }

    private static void shortIn() {
        ShipStores ship = Ships.inPort();
        CHECKS.equal("not on a menu", ship.shortIn(0), ShipStores.NONE);
        ship.setCrew(1);
        ship.addKind(200, 200, 200);
        ship.setPrice(0, 2, 1);
        Checks.serve(ship, "0*1/2");
        CHECKS.equal("short at once", ship.shortIn(0), 0);
        ship.buy(0, 59, 2);
        CHECKS.equal("short on the last day", ship.shortIn(0), 59);
        ship.buy(0, 1, 2);
        CHECKS.equal("not short in 60 days", ship.shortIn(0), ShipStores.NONE);
        ship.undo();
        ship.buy(2, 1, 2);
        CHECKS.equal("a substitute is enough", ship.shortIn(0), ShipStores.NONE);
        ship.discard(0, 50);
        CHECKS.equal("short when both are eaten", ship.shortIn(0), 10);
        CHECKS.equal("a substitute is not short", ship.shortIn(2), ShipStores.NONE);
        long before = ship.digest();
        ship.shortIn(0);
        CHECKS.equal("shortIn changes nothing", ship.digest(), before);
        ship.pass(12);
        CHECKS.equal("what was short before does not count", ship.shortIn(0), 0);
        Checks.serve(ship, "-;0*1;-;-;-");
        CHECKS.equal("the menu is that of the day", ship.shortIn(0), 4);
        for (int bad : FAR) {
            CHECKS.refused("shortIn(" + bad + ")", ship, INDEX, () -> ship.shortIn(bad));
        }
        CHECKS.refused("shortIn(3)", ship, INDEX, () -> ship.shortIn(3));
    }

    private static void bestStore() {
        ShipStores ship = new ShipStores();
        ship.addKind(10, 20, 30);
        ship.addKind(5, 9, 9);
        ship.addKind(7, 7, 3);
        ship.addKind(0, 0, 0);
        ship.addKind(0, 0, 1);
        int[] due = {2, 1, 0, ShipStores.NONE, 2};
        int[] warmFrozen = {1, 1, 0, ShipStores.NONE, ShipStores.NONE};
        int[] warmBoth = {0, 0, 0, ShipStores.NONE, ShipStores.NONE};
        for (int kind = 0; kind < due.length; kind++) {
            CHECKS.equal("bestStore", ship.bestStore(kind), due[kind]);
        }
        ship.warm(2, 1);
        for (int kind = 0; kind < due.length; kind++) {
            CHECKS.equal("bestStore with 2 warm", ship.bestStore(kind), warmFrozen[kind]);
        }
        ship.warm(1, 1);
        for (int kind = 0; kind < due.length; kind++) {
            CHECKS.equal("bestStore with both warm", ship.bestStore(kind), warmBoth[kind]);
        }
        ship.pass(1);
        CHECKS.equal("bestStore a day later", ship.bestStore(0), 2);
        for (int bad : FAR) {
            CHECKS.refused("bestStore(" + bad + ")", ship, INDEX, () -> ship.bestStore(bad));
        }
        CHECKS.refused("bestStore(5)", ship, INDEX, () -> ship.bestStore(5));
    }

    private static void leastPurchase() {
        ShipStores ship = Ships.inPort();
        CHECKS.equal("not on a menu", ship.leastPurchase(0, 0), 0);
        ship.setCrew(3);
        Checks.serve(ship, "0*1");
        CHECKS.equal("60 days without a port", ship.leastPurchase(0, 2), 180);
        ship.addPort(61, 0);
        CHECKS.equal("a port that is more than 60 days away", ship.leastPurchase(0, 2), 180);
        ship.addPort(60, 0);
        CHECKS.equal("a port 60 days away", ship.leastPurchase(0, 2), 180);
        ship.addPort(57, 0);
        CHECKS.equal("a port 57 days away", ship.leastPurchase(0, 2), 180);
        ship.addPort(56, 0);
        CHECKS.equal("a port 56 days away", ship.leastPurchase(0, 2), 170);
        CHECKS.equal("it does not keep so long in 1", ship.leastPurchase(0, 1), ShipStores.NONE);
        ship.addPort(20, 0);
        CHECKS.equal("the day of the port is not asked for", ship.leastPurchase(0, 1), 60);
        CHECKS.equal("nor keeps it so long in 0", ship.leastPurchase(0, 0), ShipStores.NONE);
        ship.setCrew(50);
        CHECKS.equal("1000 rations", ship.leastPurchase(0, 1), 1000);
        ship.setCrew(51);
        CHECKS.equal("more than 1000", ship.leastPurchase(0, 1), ShipStores.NONE);
        ship.pass(19);
        CHECKS.equal("the day before the port", ship.leastPurchase(0, 0), 60);
    }

    private static void leastPurchaseLooksOnly() {
        ShipStores ship = Ships.inPort();
        Checks.serve(ship, "1*1/0,0*1");
        ship.addPort(1, 0);
        ship.buy(0, 14, 0);
        CHECKS.equal("it is eaten as a substitute, too", ship.leastPurchase(0, 0), 10);
        CHECKS.equal("of the other kind nothing is short", ship.leastPurchase(1, 0), 0);
        ship.pay(-9986);
        ship.setRoom(1, 0);
        ship.setPrice(0, 0, 0);
        CHECKS.equal("room, coins and prices are not asked for", ship.leastPurchase(0, 1), 10);
        ship.discard(0, 5);
        CHECKS.equal("the substitute is short", ship.leastPurchase(1, 0), 10);
        CHECKS.equal("its life is not asked for", ship.leastPurchase(0, 0), 20);
        long before = ship.digest();
        ship.leastPurchase(0, 0);
        CHECKS.equal("leastPurchase changes nothing", ship.digest(), before);
        for (int bad : FAR) {
            CHECKS.refused("leastPurchase(" + bad + ", 0)", ship, INDEX, () -> ship.leastPurchase(bad, 0));
            CHECKS.refused("leastPurchase(0, " + bad + ")", ship, INDEX, () -> ship.leastPurchase(0, bad));
        }
        CHECKS.refused("leastPurchase(2, 0)", ship, INDEX, () -> ship.leastPurchase(2, 0));
        CHECKS.refused("leastPurchase(0, 3)", ship, INDEX, () -> ship.leastPurchase(0, 3));
        ShipStores full = Ships.inPort();
        for (int lot = 0; lot < 30; lot++) {
            full.buy(0, 1, 2);
        }
        full.addPort(2, 0);
        Checks.serve(full, "0*2");
        CHECKS.equal("a lot beyond the 30", full.leastPurchase(0, 2), 10);
        full.setCrew(20);
        CHECKS.equal("a greater lot beyond the 30", full.leastPurchase(0, 2), 50);
        Checks.serve(full, "1*2");
        CHECKS.equal("a lot of another kind beyond the 30", full.leastPurchase(1, 2), 80);
        CHECKS.equal("it keeps for a day in 0", full.leastPurchase(1, 0), ShipStores.NONE);
        ShipStores older = Ships.inPort();
        for (int lot = 0; lot < 30; lot++) {
            older.buy(1, 1, 1);
        }
        older.addPort(8, 0);
        older.setCrew(5);
        Checks.serve(older, "1*1");
        CHECKS.equal("the lot beyond the 30 keeps longest, so it is eaten last", older.leastPurchase(1, 2), 20);
        ShipStores fresh = new ShipStores();
        fresh.addKind(3, 3, 3);
        fresh.addPort(0, 900);
        fresh.addPort(4, 900);
        fresh.setCrew(3);
        Checks.serve(fresh, "0*1");
        CHECKS.equal("it is quite fresh: 999 on the last morning", fresh.leastPurchase(0, 0), 20);
    }

    private static void cheapest() {
        ShipStores ship = new ShipStores();
        ship.addKind(1, 1, 1);
        ship.addKind(1, 1, 1);
        int[] days = {0, 5, 10, 20, 30};
        int[] prices = {1, 9, 3, 3, 0};
        for (int port = 0; port < days.length; port++) {
            ship.addPort(days[port], 0);
            ship.setPrice(port, 0, prices[port]);
        }
        CHECKS.equal("not sold", ship.cheapest(1), ShipStores.NONE);
        CHECKS.equal("the present day", ship.cheapest(0), 0);
        ship.pass(1);
        CHECKS.equal("of several the one with the least day", ship.cheapest(0), 2);
        ship.pass(9);
        CHECKS.equal("the present day again", ship.cheapest(0), 2);
        ship.pass(1);
        CHECKS.equal("the later one", ship.cheapest(0), 3);
        ship.setPrice(4, 0, 2);
        CHECKS.equal("a cheaper one", ship.cheapest(0), 4);
        ship.pass(20);
        CHECKS.equal("none is left", ship.cheapest(0), ShipStores.NONE);
        for (int bad : FAR) {
            CHECKS.refused("cheapest(" + bad + ")", ship, INDEX, () -> ship.cheapest(bad));
        }
        CHECKS.refused("cheapest(2)", ship, INDEX, () -> ship.cheapest(2));
    }

    private static void meanIs(ShipStores ship, double due) {
        CHECKS.equal("meanAge (in bits)", Double.doubleToLongBits(ship.meanAge()), Double.doubleToLongBits(due));
    }

    private static void meanAge() {
        ShipStores ship = Ships.inPort();
        meanIs(ship, 0.0);
        ship.buy(0, 100, 0);
        meanIs(ship, 0.0);
        ship.pass(1);
        meanIs(ship, 100.0);
        ship.discard(0, 99);
        meanIs(ship, 100.0);
        ship.undo();
        ship.undo();
        ship.buy(1, 3, 2);
        ship.buy(0, 4, 1);
        ship.pass(1);
        meanIs(ship, (100.0 * 100 + 20 * 3 + 50 * 4) / 107);
        long before = ship.digest();
        ship.meanAge();
        CHECKS.equal("meanAge changes nothing", ship.digest(), before);
    }

    private static void digest() {
        ShipStores ship = new ShipStores();
        CHECKS.equal("digest of a new ship", ship.digest(), Digest.of(ship, ""));
        Checks.write(ship, "0*1,x");
        CHECKS.equal("digest with a buffer", ship.digest(), Digest.of(ship, "0*1,x"));
        ship.clearBuffer();
        CHECKS.equal("digest with a clear buffer", ship.digest(), Digest.of(ship, ""));
        ShipStores provisioned = provisioned();
        provisioned.addPort(17, 5);
        for (int days = 0; days < 30; days++) {
            CHECKS.equal("digest on the day " + days, provisioned.digest(), Digest.of(provisioned, ""));
            provisioned.pass(1);
        }
        ShipStores stale = new ShipStores();
        stale.addKind(200, 1, 3);
        for (int staleness = 0; staleness <= 900; staleness += 7) {
            stale.addPort(0, staleness);
            stale.setPrice(0, 0, 1);
            stale.buy(0, 1 + staleness % 40, 0);
            CHECKS.equal("digest at the age " + staleness, stale.digest(), Digest.of(stale, ""));
            if (stale.count(2) == 3) {
                stale.discard(0, stale.lot(0, 2));
            }
            stale.removePort(0);
        }
        ShipStores fresh = new ShipStores();
        fresh.addKind(200, 200, 200);
        fresh.addPort(0, 1);
        fresh.setPrice(0, 0, 1);
        fresh.buy(0, 1, 0);
        for (int staleness = 0; staleness < 12; staleness++) {
            fresh.removePort(0);
            fresh.addPort(0, 0);
            fresh.setPrice(0, 0, 1);
            fresh.buy(0, 37, 2);
            CHECKS.equal("digest at a mean age below 1", fresh.digest(), Digest.of(fresh, ""));
        }
    }

    /** Each of these changes one thing, and the digest with it. */
    private static void digestOfParts() {
        ShipStores ship = provisioned();
        long[] seen = new long[8];
        seen[0] = ship.digest();
        ship.append('-');
        seen[1] = ship.digest();
        ship.setCrew(11);
        seen[2] = ship.digest();
        ship.setRoom(0, 999);
        seen[3] = ship.digest();
        ship.setPrice(0, 1, 0);
        seen[4] = ship.digest();
        ship.move(0, 1, 0);
        seen[5] = ship.digest();
        ship.warm(1, 1);
        seen[6] = ship.digest();
        ship.load();
        seen[7] = ship.digest();
        for (int one = 0; one < seen.length; one++) {
            for (int other = 0; other < one; other++) {
                CHECKS.holds("digests differ", seen[one] != seen[other]);
            }
        }
    }
}
