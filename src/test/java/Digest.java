import java.math.BigInteger;
import java.util.ArrayList;
import java.util.List;

/** The digest as the document tells it, from the answers of the other calls, and without an overflow until the end. */
final class Digest {
    private static final BigInteger FACTOR = BigInteger.valueOf(31);

    private Digest() {
    }

    static long of(ShipStores ship, String buffer) {
        BigInteger hash = BigInteger.valueOf(2203);
        for (long value : valuesOf(ship, buffer)) {
            hash = hash.multiply(FACTOR).add(BigInteger.valueOf(value));
        }
        return hash.longValue();
    }

    private static List<Long> valuesOf(ShipStores ship, String buffer) {
        List<Long> values = new ArrayList<>();
        for (int what = 0; what <= 12; what++) {
            values.add((long) ship.count(what));
        }
        for (int lot = 0; lot < ship.count(2); lot++) {
            for (int what = 0; what <= 5; what++) {
                values.add((long) ship.lot(lot, what));
            }
        }
        for (int store = 0; store < 3; store++) {
            for (int what = 0; what <= 3; what++) {
                values.add((long) ship.store(store, what));
            }
        }
        for (int kind = 0; kind < ship.count(1); kind++) {
            for (int what = 0; what <= 9; what++) {
                values.add((long) ship.kind(kind, what));
            }
            values.add((long) ship.shortIn(kind));
            values.add((long) ship.bestStore(kind));
        }
        for (int port = 0; port < ship.count(3); port++) {
            values.add((long) ship.port(port, 0));
            values.add((long) ship.port(port, 1));
            for (int kind = 0; kind < ship.count(1); kind++) {
                values.add((long) ship.port(port, 10 + kind));
            }
        }
        addMenusAndForecasts(values, ship);
        values.add((long) buffer.length());
        for (int index = 0; index < buffer.length(); index++) {
            values.add((long) buffer.charAt(index));
        }
        return values;
    }

    private static void addMenusAndForecasts(List<Long> values, ShipStores ship) {
        for (int menu = 0; menu < ship.count(4); menu++) {
            for (int item = 0; item < 4; item++) {
                for (int what = 0; what <= 2; what++) {
                    values.add((long) ship.menu(menu, item, what));
                }
            }
        }
        for (int what = 0; what <= 4; what++) {
            values.add((long) ship.ifPass(14, what));
        }
        values.add(Double.doubleToLongBits(ship.meanAge()));
    }
}
