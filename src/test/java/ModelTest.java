import java.util.Random;

/** Long runs of calls, the same ones on the class and on the model; the answers must be the same. */
public final class ModelTest {
    private static final int RUNS = 400;
    private static final int CALLS = 512;
    private static final int METHODS = 32;
    private static final int ADD_KIND = 1;
    private static final int SET_ROOM = 2;
    private static final int WARM = 3;
    private static final int SET_CREW = 4;
    private static final int PAY = 5;
    private static final int ADD_PORT = 6;
    private static final int REMOVE_PORT = 7;
    private static final int SET_PRICE = 8;
    private static final int BUY = 9;
    private static final int MOVE = 10;
    private static final int DISCARD = 11;
    private static final int PASS = 12;
    private static final int APPEND = 13;
    private static final int CLEAR = 14;
    private static final int FIRST_ERROR = 15;
    private static final int LOAD = 16;
    private static final int UNDO = 17;
    private static final int WRITE = 18;
    private static final int LOT = 19;
    private static final int STORE = 20;
    private static final int KIND = 21;
    private static final int PORT = 22;
    private static final int MENU = 23;
    private static final int COUNT = 24;
    private static final int WHY = 25;
    private static final int IF_PASS = 26;
    private static final int SPOILS = 27;
    private static final int SHORT_IN = 28;
    private static final int BEST_STORE = 29;
    private static final int LEAST = 30;
    private static final int CHEAPEST = 31;
    private static final int DIGEST = 32;
    private static final int STOCK = 33;
    private static final int[] FAR = {Integer.MIN_VALUE, Integer.MIN_VALUE + 1, Integer.MAX_VALUE, -1, -2, 3, 8, 9, 30,
        31, 61, 1001, 2001, 5001, 1000001};
    private static final String TEXT_SIGNS = "0123456789*/,;-x";

    private final Checks checks = new Checks();
    private final int run;
    private final Random random;
    private final ShipStores ship = new ShipStores();
    private final Model model = new Model();
    /** One run in four also tries arguments far off, so that the others get deep into the days. */
    private final boolean wild;

    private ModelTest(int run) {
        this.run = run;
        random = new Random(7919L * run + 1);
        wild = run % 4 == 0;
    }

    public static void main(String[] args) {
        Checks all = new Checks();
        for (int run = 0; run < RUNS; run++) {
            if (!new ModelTest(run).answersAlike()) {
                all.fail("run " + run + " went wrong");
            }
            all.holds("a run", true);
        }
        all.end("ModelTest");
    }

    private boolean answersAlike() {
        for (int call = 0; call < CALLS; call++) {
            int method = pickMethod(call);
            int a = pickArgument(method, 0);
            int b = pickArgument(method, 1);
            int c = pickArgument(method, 2);
            if (!sameAnswer(call, method, a, b, c)) {
                return false;
            }
            if (call % 8 == 7 && !sameAnswer(call, DIGEST, 0, 0, 0)) {
                return false;
            }
        }
        return true;
    }

    private boolean sameAnswer(int call, int method, int a, int b, int c) {
        String got = answer(() -> onShip(method, a, b, c));
        String due = answer(() -> onModel(method, a, b, c));
        if (got.equals(due)) {
            return true;
        }
        checks.fail("run " + run + ", call " + call + ": method " + method + "(" + a + ", " + b + ", " + c
            + ") answered " + got + ", due is " + due);
        return false;
    }

    private static String answer(Checks.Call call) {
        try {
            return Long.toString(call.answer());
        } catch (IllegalArgumentException | IllegalStateException | IndexOutOfBoundsException thrown) {
            return thrown.getClass().getSimpleName();
        }
    }

    /** Kinds and food come first, then all calls in a mixture that keeps food on board. */
    private int pickMethod(int call) {
        int[] start = {ADD_KIND, ADD_KIND, ADD_KIND, SET_CREW, STOCK, WRITE, BUY, BUY};
        if (call < start.length) {
            return start[call];
        }
        int[] often = {BUY, BUY, BUY, BUY, BUY, MOVE, MOVE, DISCARD, PASS, WRITE, STOCK, LOT, LOT, WHY, LEAST};
        return random.nextInt(2) == 0 ? often[random.nextInt(often.length)] : 1 + random.nextInt(METHODS);
    }

    private int pickArgument(int method, int place) {
        int[] range = rangeOf(method);
        if (place * 2 >= range.length) {
            return 0;
        }
        int least = range[place * 2];
        int most = Math.max(least, range[place * 2 + 1]);
        if (wild && random.nextInt(40) == 0) {
            return FAR[random.nextInt(FAR.length)];
        }
        switch (random.nextInt(24)) {
            case 0: return least - 1;
            case 1: return most + 1;
            case 2: return least;
            case 3: return most;
            default: return least + random.nextInt(most - least + 1);
        }
    }

    /** The least and the most of each argument, mostly as the document allows it, in small runs mostly less. */
    private int[] rangeOf(int method) {
        int kinds = ship.count(1) - 1;
        int lots = ship.count(2) - 1;
        int ports = ship.count(3) - 1;
        int today = Math.min(480, ship.count(0));
        boolean whole = random.nextInt(6) == 0;
        switch (method) {
            case ADD_KIND: return new int[] {0, whole ? 200 : 15, 0, whole ? 200 : 40, 0, 200};
            case SET_ROOM: return new int[] {0, 2, whole ? 0 : 200, 5000};
            case WARM: return new int[] {1, 2, 0, whole ? 30 : 5};
            case SET_CREW: return new int[] {1, whole ? 100 : 6};
            case PAY: return new int[] {whole ? -10000 : 0, 20000};
            case ADD_PORT: return new int[] {whole ? 0 : today, whole ? 500 : today + 20, 0, 900};
            case REMOVE_PORT: return new int[] {0, ports};
            case SET_PRICE: return new int[] {0, ports, 0, kinds, 0, whole ? 100 : 6};
            case BUY: return new int[] {0, kinds, 1, whole ? 2000 : 60, 0, 2};
            case MOVE: return new int[] {0, lots, 1, lots < 0 ? 1 : ship.lot(random.nextInt(lots + 1), 2), 0, 2};
            case DISCARD: return new int[] {0, lots, 1, lots < 0 ? 1 : ship.lot(random.nextInt(lots + 1), 2)};
            case PASS: return new int[] {1, random.nextInt(40) == 0 ? 60 : 2};
            case APPEND: return new int[] {33, 126};
            case LOT: return new int[] {0, lots, 0, 5};
            case STORE: return new int[] {0, 2, 0, 3};
            case KIND: return new int[] {0, kinds, 0, 9};
            case PORT: return new int[] {0, ports, whole ? 0 : 10, 10 + kinds};
            case MENU: return new int[] {0, ship.count(4) - 1, 0, 3, 0, 2};
            case COUNT: return new int[] {0, 12};
            case WHY: return new int[] {0, kinds, 1, whole ? 2000 : 300, 0, 2};
            case IF_PASS: return new int[] {1, 60, 0, 4};
            case SPOILS: return new int[] {0, kinds, 1, 60};
            case LEAST: return new int[] {0, kinds, 0, 2};
            case WRITE: return new int[] {0, 1000};
            default: return new int[] {0, kinds};
        }
    }

    /** Brings the ship into a port where most kinds are sold, if ports can still be. */
    private long stock(boolean onShip, int seed) {
        Random random = new Random(seed + 31L * run);
        int port = onShip ? ship.count(10) : model.count(10);
        if (port == ShipStores.NONE) {
            if ((onShip ? ship.count(3) : model.count(3)) == 8) {
                int removed = random.nextInt(8);
                port = onShip ? ship.removePort(removed) : model.removePort(removed);
            }
            int day = onShip ? ship.count(0) : model.count(0);
            int staleness = random.nextInt(3) == 0 ? 0 : random.nextInt(901);
            port = onShip ? ship.addPort(day, staleness) : model.addPort(day, staleness);
        }
        int kinds = onShip ? ship.count(1) : model.count(1);
        int sum = 0;
        for (int kind = 0; kind < kinds; kind++) {
            int price = random.nextInt(5);
            sum = 3 * sum + (onShip ? ship.setPrice(port, kind, price) : model.setPrice(port, kind, price));
        }
        return sum;
    }

    /** Writes menus into the buffer, one sign in some of them wrong, and loads it if half of the seeds say so. */
    private long write(boolean onShip, int seed) {
        Random signs = new Random(seed + 131L * run);
        StringBuilder text = new StringBuilder();
        int kinds = Math.max(2, onShip ? ship.count(1) : model.count(1));
        int menus = 1 + signs.nextInt(signs.nextInt(6) == 0 ? 11 : 4);
        for (int menu = 0; menu < menus; menu++) {
            text.append(menu > 0 ? ";" : "");
            int items = signs.nextInt(signs.nextInt(8) == 0 ? 6 : 4);
            text.append(items == 0 ? "-" : "");
            for (int item = 0; item < items; item++) {
                int kind = signs.nextInt(signs.nextInt(30) == 0 ? 9 : kinds);
                int other = signs.nextInt(10) == 0 ? signs.nextInt(9) : (kind + 1 + signs.nextInt(kinds - 1)) % kinds;
                text.append(item > 0 ? "," : "").append(kind).append('*').append(1 + signs.nextInt(3));
                text.append(signs.nextInt(3) == 0 ? "/" + other : "");
            }
        }
        if (signs.nextInt(5) == 0) {
            text.setCharAt(signs.nextInt(text.length()), TEXT_SIGNS.charAt(signs.nextInt(TEXT_SIGNS.length())));
        }
        if (onShip) {
            ship.clearBuffer();
        } else {
            model.clearBuffer();
        }
        for (int index = 0; index < text.length() && index < 60; index++) {
            if (onShip) {
                ship.append(text.charAt(index));
            } else {
                model.append(text.charAt(index));
            }
        }
        if (signs.nextInt(3) == 0) {
            return onShip ? ship.firstError() : model.firstError();
        }
        return onShip ? ship.load() : model.load();
    }

    private long onShip(int method, int a, int b, int c) {
        switch (method) {
            case ADD_KIND: return ship.addKind(a, b, c);
            case SET_ROOM: return ship.setRoom(a, b);
            case WARM: return ship.warm(a, b);
            case SET_CREW: return ship.setCrew(a);
            case PAY: return ship.pay(a);
            case ADD_PORT: return ship.addPort(a, b);
            case REMOVE_PORT: return ship.removePort(a);
            case SET_PRICE: return ship.setPrice(a, b, c);
            case BUY: return ship.buy(a, b, c);
            case MOVE: return ship.move(a, b, c);
            case DISCARD: return ship.discard(a, b);
            case PASS: return ship.pass(a);
            case APPEND: return ship.append(a);
            case CLEAR: return ship.clearBuffer();
            case FIRST_ERROR: return ship.firstError();
            case LOAD: return ship.load();
            case UNDO: return ship.undo();
            case WRITE: return write(true, a);
            case STOCK: return stock(true, a);
            case LOT: return ship.lot(a, b);
            case STORE: return ship.store(a, b);
            case KIND: return ship.kind(a, b);
            case PORT: return ship.port(a, b);
            case MENU: return ship.menu(a, b, c);
            case COUNT: return ship.count(a);
            case WHY: return ship.why(a, b, c);
            case IF_PASS: return ship.ifPass(a, b);
            case SPOILS: return ship.spoils(a, b);
            case SHORT_IN: return ship.shortIn(a);
            case BEST_STORE: return ship.bestStore(a);
            case LEAST: return ship.leastPurchase(a, b);
            case CHEAPEST: return ship.cheapest(a);
            default: return ship.digest() * 31 + Double.doubleToLongBits(ship.meanAge());
        }
    }

    private long onModel(int method, int a, int b, int c) {
        switch (method) {
            case ADD_KIND: return model.addKind(a, b, c);
            case SET_ROOM: return model.setRoom(a, b);
            case WARM: return model.warm(a, b);
            case SET_CREW: return model.setCrew(a);
            case PAY: return model.pay(a);
            case ADD_PORT: return model.addPort(a, b);
            case REMOVE_PORT: return model.removePort(a);
            case SET_PRICE: return model.setPrice(a, b, c);
            case BUY: return model.buy(a, b, c);
            case MOVE: return model.move(a, b, c);
            case DISCARD: return model.discard(a, b);
            case PASS: return model.pass(a);
            case APPEND: return model.append(a);
            case CLEAR: return model.clearBuffer();
            case FIRST_ERROR: return model.firstError();
            case LOAD: return model.load();
            case UNDO: return model.undo();
            case WRITE: return write(false, a);
            case STOCK: return stock(false, a);
            case LOT: return model.lotProperty(a, b);
            case STORE: return model.storeProperty(a, b);
            case KIND: return model.kindProperty(a, b);
            case PORT: return model.portProperty(a, b);
            case MENU: return model.menuProperty(a, b, c);
            case COUNT: return model.count(a);
            case WHY: return model.whyNot(a, b, c);
            case IF_PASS: return model.ifPass(a, b);
            case SPOILS: return model.spoils(a, b);
            case SHORT_IN: return model.shortIn(a);
            case BEST_STORE: return model.bestStore(a);
            case LEAST: return model.leastPurchase(a, b);
            case CHEAPEST: return model.cheapest(a);
            default: return model.digest() * 31 + Double.doubleToLongBits(model.meanAge());
        }
    }
}
