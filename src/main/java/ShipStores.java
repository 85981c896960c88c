/** The provisions of a ship. What each method promises stands in the document, under the method's name. */
public final class ShipStores {
    /** There is nothing to return. */
    public static final int NONE = -1;

    private static final int MAX_KINDS = 8;
    private static final int MAX_LIFE = 200;
    private static final int STORES = 3;
    private static final int DRY = 0;
    private static final int FIRST_ROOM = 1000;
    private static final int MAX_ROOM = 5000;
    private static final int MAX_WARM = 30;
    private static final int MAX_LOTS = 30;
    private static final int SPOILED = 1000;
    private static final int FIRST_CREW = 10;
    private static final int MAX_CREW = 100;
    private static final int MAX_MENUS = 10;
    private static final int MAX_ITEMS = 4;
    private static final int MAX_PORTS = 8;
    private static final int MAX_PORT_DAY = 500;
    private static final int MAX_STALENESS = 900;
    private static final int MAX_PRICE = 100;
    private static final int FIRST_PURSE = 10000;
    private static final int MAX_PURSE = 1000000;
    private static final int MAX_PURCHASE = 2000;
    private static final int MAX_TRIED = 1000;
    private static final int TRIED_STEP = 10;
    private static final int MAX_DAYS = 60;
    private static final int MAX_TEXT = 60;
    private static final int MAX_SAVED = 6;
    private static final int DIGEST_START = 2203;
    private static final int DIGEST_DAYS = 14;
    private static final int PRICES_FROM = 10;

    private final Ship ship;
    /** What would be is found out on this one, so that a forecast makes no objects. */
    private final Ship trial;
    private final History history;
    private final MenuText text;

    public ShipStores() {
        ship = new Ship();
        trial = new Ship();
        history = new History();
        text = new MenuText();
    }

    // ---- kinds, stores, ports

    public int addKind(int dry, int cool, int frozen) throws IllegalArgumentException, IllegalStateException {
        requireWithin(dry, 0, MAX_LIFE);
        requireWithin(cool, 0, MAX_LIFE);
        requireWithin(frozen, 0, MAX_LIFE);
        if (ship.kinds.number >= MAX_KINDS) {
            throw new IllegalStateException("there are 8 kinds");
        }
        history.save(ship);
        return ship.kinds.addOne(dry, cool, frozen);
    }

    public int setRoom(int store, int room)
            throws IndexOutOfBoundsException, IllegalArgumentException, IllegalStateException {
        requireStore(store);
        requireWithin(room, 0, MAX_ROOM);
        if (ship.lots.rationsIn(store) > room) {
            throw new IllegalStateException("the lots in the store have more rations");
        }
        history.save(ship);
        int previous = ship.stores.room.at(store);
        ship.stores.room.put(store, room);
        return previous;
    }

    public int warm(int store, int days) throws IndexOutOfBoundsException, IllegalArgumentException {
        if (!isWithin(store, DRY + 1, STORES - 1)) {
            throw new IndexOutOfBoundsException("there is no such store, or it cannot be warm");
        }
        requireWithin(days, 0, MAX_WARM);
        history.save(ship);
        int previous = ship.stores.warmDays.at(store);
        ship.stores.warmDays.put(store, days);
        return previous;
    }

    public int setCrew(int heads) throws IllegalArgumentException {
        requireWithin(heads, 1, MAX_CREW);
        history.save(ship);
        int previous = ship.heads;
        ship.heads = heads;
        return previous;
    }

    public int pay(int coins) throws IllegalArgumentException {
        // coins alone may be so many that an int cannot hold the sum
        long then = (long) ship.purse + coins;
        if (then < 0 || then > MAX_PURSE) {
            throw new IllegalArgumentException("the purse cannot have so many coins");
        }
        history.save(ship);
        ship.purse = (int) then;
        return ship.purse;
    }

    public int addPort(int day, int staleness) throws IllegalArgumentException, IllegalStateException {
        requireWithin(day, 0, MAX_PORT_DAY);
        requireWithin(staleness, 0, MAX_STALENESS);
        if (ship.ports.number >= MAX_PORTS || ship.ports.onDay(day) != NONE) {
            throw new IllegalStateException("there are 8 ports, or one with this day");
        }
        history.save(ship);
        return ship.ports.insert(day, staleness);
    }

    public int removePort(int port) throws IndexOutOfBoundsException {
        requirePort(port);
        history.save(ship);
        int day = ship.ports.day.at(port);
        ship.ports.takeOut(port);
        return day;
    }

    public int setPrice(int port, int kind, int price) throws IndexOutOfBoundsException, IllegalArgumentException {
        requirePort(port);
        requireKind(kind);
        requireWithin(price, 0, MAX_PRICE);
        history.save(ship);
        int previous = ship.ports.priceOf(port, kind);
        ship.ports.putPrice(port, kind, price);
        return previous;
    }

    // ---- lots

    public int buy(int kind, int amount, int store)
            throws IndexOutOfBoundsException, IllegalArgumentException, IllegalStateException {
        requireKind(kind);
        requireStore(store);
        requireWithin(amount, 1, MAX_PURCHASE);
        if (ship.refusal(kind, amount, store) != 0) {
            throw new IllegalStateException("the purchase is refused");
        }
        history.save(ship);
        return ship.purchase(kind, amount, store);
    }

    public int move(int lot, int amount, int store)
            throws IndexOutOfBoundsException, IllegalArgumentException, IllegalStateException {
        requireLot(lot);
        requireStore(store);
        requireWithin(amount, 1, ship.lots.amount.at(lot));
        if (ship.lots.storeOf.at(lot) == store) {
            throw new IllegalArgumentException("the lot is in this store");
        }
        boolean whole = amount == ship.lots.amount.at(lot);
        if (ship.roomLeft(store) < amount || !whole && ship.lots.number >= MAX_LOTS) {
            throw new IllegalStateException("there is too little room, or there are too many lots");
        }
        history.save(ship);
        if (whole) {
            ship.lots.storeOf.put(lot, store);
            return lot;
        }
        return ship.lots.split(lot, amount, store);
    }

    public int discard(int lot, int amount) throws IndexOutOfBoundsException, IllegalArgumentException {
        requireLot(lot);
        requireWithin(amount, 1, ship.lots.amount.at(lot));
        history.save(ship);
        ship.kinds.thrown.add(ship.lots.kindOf.at(lot), amount);
        ship.lots.amount.add(lot, -amount);
        ship.lots.dropEmpty();
        return ship.lots.rations();
    }

    public int pass(int days) throws IllegalArgumentException {
        requireWithin(days, 1, MAX_DAYS);
        history.save(ship);
        int before = ship.kinds.spoiled.sum();
        ship.passDays(days);
        return ship.kinds.spoiled.sum() - before;
    }

    // ---- texts

    public int append(int code) throws IllegalArgumentException, IllegalStateException {
        requireWithin(code, '!', '~');
        if (text.length >= MAX_TEXT) {
            throw new IllegalStateException("the buffer is full");
        }
        text.codes.put(text.length, code);
        text.length++;
        return text.length;
    }

    public int clearBuffer() {
        int previous = text.length;
        text.length = 0;
        return previous;
    }

    public int firstError() {
        return text.readMenus();
    }

    public int load() throws IllegalArgumentException, IllegalStateException {
        if (text.readMenus() < text.length || !text.isComplete()) {
            throw new IllegalArgumentException("the buffer is not a complete text of menus");
        }
        if (text.highestKind >= ship.kinds.number) {
            throw new IllegalStateException("the buffer names a kind that does not exist");
        }
        history.save(ship);
        ship.menus.become(text.menus);
        text.length = 0;
        return ship.menus.number;
    }

    public int undo() throws IllegalStateException {
        if (history.number < 1) {
            throw new IllegalStateException("there is no saved state");
        }
        history.restore(ship);
        return history.number;
    }

    // ---- what there is

    public int lot(int lot, int what) throws IndexOutOfBoundsException, IllegalArgumentException {
        requireLot(lot);
        switch (what) {
            case 0: return ship.lots.kindOf.at(lot);
            case 1: return ship.lots.storeOf.at(lot);
            case 2: return ship.lots.amount.at(lot);
            case 3: return ship.lots.age.at(lot);
            case 4: return ship.daysLeftOf(lot);
            case 5: return ship.eatingPlaceOf(lot);
            default: throw new IllegalArgumentException("what is not 0 to 5");
        }
    }

    public int store(int store, int what) throws IndexOutOfBoundsException, IllegalArgumentException {
        requireStore(store);
        switch (what) {
            case 0: return ship.stores.room.at(store);
            case 1: return ship.lots.rationsIn(store);
            case 2: return ship.lots.numberIn(store);
            case 3: return ship.stores.warmDays.at(store);
            default: throw new IllegalArgumentException("what is not 0 to 3");
        }
    }

    public int kind(int kind, int what) throws IndexOutOfBoundsException, IllegalArgumentException {
        requireKind(kind);
        switch (what) {
            case 0:
            case 1:
            case 2: return ship.kinds.lifeIn(kind, what);
            case 3: return ship.kinds.bought.at(kind);
            case 4: return ship.kinds.eaten.at(kind);
            case 5: return ship.kinds.spoiled.at(kind);
            case 6: return ship.kinds.thrown.at(kind);
            case 7: return ship.lots.rationsOf(kind);
            case 8: return ship.kinds.lacking.at(kind);
            case 9: return ship.lots.numberOf(kind);
            default: throw new IllegalArgumentException("what is not 0 to 9");
        }
    }

    public int port(int port, int what) throws IndexOutOfBoundsException, IllegalArgumentException {
        requirePort(port);
        if (what == 0) {
            return ship.ports.day.at(port);
        }
        if (what == 1) {
            return ship.ports.staleness.at(port);
        }
        requireWithin(what, PRICES_FROM, PRICES_FROM + ship.kinds.number - 1);
        return ship.ports.priceOf(port, what - PRICES_FROM);
    }

    public int menu(int menu, int item, int what) throws IndexOutOfBoundsException, IllegalArgumentException {
        if (!isWithin(menu, 0, ship.menus.number - 1) || !isWithin(item, 0, MAX_ITEMS - 1)) {
            throw new IndexOutOfBoundsException("there is no such menu or item");
        }
        int slot = ship.menus.slot(menu, item);
        switch (what) {
            case 0: return ship.menus.has(slot) ? ship.menus.kindOf.at(slot) : NONE;
            case 1: return ship.menus.has(slot) ? ship.menus.amount.at(slot) : NONE;
            case 2: return ship.menus.has(slot) ? ship.menus.substitute.at(slot) : NONE;
            default: throw new IllegalArgumentException("what is not 0 to 2");
        }
    }

    public int count(int what) throws IllegalArgumentException {
        switch (what) {
            case 0: return ship.day;
            case 1: return ship.kinds.number;
            case 2: return ship.lots.number;
            case 3: return ship.ports.number;
            case 4: return ship.menus.number;
            case 5: return ship.heads;
            case 6: return ship.purse;
            case 7: return ship.spent;
            case 8: return ship.hungryDays;
            case 9: return history.number;
            case 10: return ship.ports.onDay(ship.day);
            case 11: return ship.ports.after(ship.day);
            case 12: return ship.lots.rations();
            default: throw new IllegalArgumentException("what is not 0 to 12");
        }
    }

    // ---- what would be; nothing is changed

    public int why(int kind, int amount, int store) throws IndexOutOfBoundsException, IllegalArgumentException {
        requireKind(kind);
        requireStore(store);
        requireWithin(amount, 1, MAX_PURCHASE);
        return ship.refusal(kind, amount, store);
    }

    public int ifPass(int days, int what) throws IllegalArgumentException {
        requireWithin(days, 1, MAX_DAYS);
        requireWithin(what, 0, 4);
        trial.become(ship);
        trial.passDays(days);
        return outcomeOfTrial(what);
    }

    public int spoils(int kind, int days) throws IndexOutOfBoundsException, IllegalArgumentException {
        requireKind(kind);
        requireWithin(days, 1, MAX_DAYS);
        trial.become(ship);
        trial.passDays(days);
        return trial.kinds.spoiled.at(kind) - ship.kinds.spoiled.at(kind);
    }

    public int shortIn(int kind) throws IndexOutOfBoundsException {
        requireKind(kind);
        trial.become(ship);
        return trial.firstShort(kind, MAX_DAYS);
    }

    public int bestStore(int kind) throws IndexOutOfBoundsException {
        requireKind(kind);
        int best = NONE;
        int longest = 0;
        for (int store = 0; store < STORES; store++) {
            int life = ship.lifeNow(kind, store);
            if (life > longest) {
                best = store;
                longest = life;
            }
        }
        return best;
    }

    public int leastPurchase(int kind, int store) throws IndexOutOfBoundsException {
        requireKind(kind);
        requireStore(store);
        int days = ship.daysToNextPort();
        for (int amount = 0; amount <= MAX_TRIED; amount += TRIED_STEP) {
            trial.become(ship);
            if (amount > 0) {
                trial.lots.addOne(kind, store, amount, 0);
            }
            if (trial.firstShort(kind, days) == NONE) {
                return amount;
            }
        }
        return NONE;
    }

    public int cheapest(int kind) throws IndexOutOfBoundsException {
        requireKind(kind);
        int best = NONE;
        for (int port = 0; port < ship.ports.number; port++) {
            int price = ship.ports.priceOf(port, kind);
            boolean open = ship.ports.day.at(port) >= ship.day && price > 0;
            if (open && (best == NONE || price < ship.ports.priceOf(best, kind))) {
                best = port;
            }
        }
        return best;
    }

    public double meanAge() {
        int rations = ship.lots.rations();
        return rations < 1 ? 0.0 : (double) ship.lots.ageSum() / (double) rations;
    }

    public long digest() {
        long hash = DIGEST_START;
        for (int what = 0; what <= 12; what++) {
            hash = 31 * hash + count(what);
        }
        for (int lot = 0; lot < ship.lots.number; lot++) {
            for (int what = 0; what <= 5; what++) {
                hash = 31 * hash + lot(lot, what);
            }
        }
        for (int store = 0; store < STORES; store++) {
            for (int what = 0; what <= 3; what++) {
                hash = 31 * hash + store(store, what);
            }
        }
        for (int kind = 0; kind < ship.kinds.number; kind++) {
            for (int what = 0; what <= 9; what++) {
                hash = 31 * hash + kind(kind, what);
            }
            trial.become(ship);
            hash = 31 * hash + trial.firstShort(kind, MAX_DAYS);
            hash = 31 * hash + bestStore(kind);
        }
        for (int port = 0; port < ship.ports.number; port++) {
            hash = 31 * hash + port(port, 0);
            hash = 31 * hash + port(port, 1);
            for (int kind = 0; kind < ship.kinds.number; kind++) {
                hash = 31 * hash + port(port, PRICES_FROM + kind);
            }
        }
        for (int menu = 0; menu < ship.menus.number; menu++) {
            for (int item = 0; item < MAX_ITEMS; item++) {
                for (int what = 0; what <= 2; what++) {
                    hash = 31 * hash + menu(menu, item, what);
                }
            }
        }
        trial.become(ship);
        trial.passDays(DIGEST_DAYS);
        for (int what = 0; what <= 4; what++) {
            hash = 31 * hash + outcomeOfTrial(what);
        }
        hash = 31 * hash + bitsOf(meanAge());
        hash = 31 * hash + text.length;
        for (int index = 0; index < text.length; index++) {
            hash = 31 * hash + text.codes.at(index);
        }
        return hash;
    }

    /** What the days that passed on the trial alone have brought. */
    private int outcomeOfTrial(int what) {
        switch (what) {
            case 0: return trial.kinds.eaten.sum() - ship.kinds.eaten.sum();
            case 1: return trial.kinds.spoiled.sum() - ship.kinds.spoiled.sum();
            case 2: return trial.kinds.lacking.sum() - ship.kinds.lacking.sum();
            case 3: return trial.hungryDays - ship.hungryDays;
            default: return trial.lots.rations();
        }
    }

    /**
     * The bits of a number that is 0.0 or a mean age above it, as Double.doubleToLongBits tells them: LANGUAGE.md
     * leaves no function of Double. Halving and doubling are exact, so no bit is lost.
     */
    private static long bitsOf(double number) {
        if (!(number > 0.0)) {
            return 0;
        }
        double rest = number;
        long exponent = 1023;
        for (int halved = 0; halved < 1024 && rest >= 2.0; halved++) {
            rest = rest / 2.0;
            exponent++;
        }
        for (int doubled = 0; doubled < 1024 && rest < 1.0; doubled++) {
            rest = rest * 2.0;
            exponent--;
        }
        return (exponent << 52) + (long) ((rest - 1.0) * 4503599627370496.0);
    }

    private static boolean isWithin(int value, int least, int most) {
        return value >= least && value <= most;
    }

    private static void requireWithin(int value, int least, int most) {
        if (!isWithin(value, least, most)) {
            throw new IllegalArgumentException("an argument is out of range");
        }
    }

    private static void requireStore(int store) {
        if (!isWithin(store, 0, STORES - 1)) {
            throw new IndexOutOfBoundsException("there is no such store");
        }
    }

    private void requireKind(int kind) {
        if (!isWithin(kind, 0, ship.kinds.number - 1)) {
            throw new IndexOutOfBoundsException("there is no such kind");
        }
    }

    private void requireLot(int lot) {
        if (!isWithin(lot, 0, ship.lots.number - 1)) {
            throw new IndexOutOfBoundsException("there is no such lot");
        }
    }

    private void requirePort(int port) {
        if (!isWithin(port, 0, ship.ports.number - 1)) {
            throw new IndexOutOfBoundsException("there is no such port");
        }
    }

    /** Numbers that no index can miss: outside of the row there is 0, and nothing is written. */
    private static final class Row {
        private final int[] cells;

        Row(int length) {
            cells = new int[length < 0 ? 0 : length];
        }

        int at(int index) {
            return index < 0 || index >= cells.length ? 0 : cells[index];
        }

        void put(int index, int value) {
            if (index >= 0 && index < cells.length) {
                cells[index] = value;
            }
        }

        void add(int index, int more) {
            put(index, at(index) + more);
        }

        void fill(int value) {
            for (int index = 0; index < cells.length; index++) {
                cells[index] = value;
            }
        }

        int sum() {
            int sum = 0;
            for (int index = 0; index < cells.length; index++) {
                sum += cells[index];
            }
            return sum;
        }

        void become(Row other) {
            if (other != null && other.cells.length == cells.length) {
                System.arraycopy(other.cells, 0, cells, 0, cells.length);
            }
        }
    }

    /** The kinds of food, with their lives and their accounts. */
    private static final class Kinds {
        int number;
        final Row lives = new Row(MAX_KINDS * STORES);
        final Row bought = new Row(MAX_KINDS);
        final Row eaten = new Row(MAX_KINDS);
        final Row spoiled = new Row(MAX_KINDS);
        final Row thrown = new Row(MAX_KINDS);
        final Row lacking = new Row(MAX_KINDS);

        int addOne(int dry, int cool, int frozen) {
            int first = number * STORES;
            lives.put(first, dry);
            lives.put(first + 1, cool);
            lives.put(first + 2, frozen);
            number++;
            return number - 1;
        }

        int lifeIn(int kind, int store) {
            return lives.at(kind * STORES + store);
        }

        void become(Kinds other) {
            if (other == null) {
                return;
            }
            number = other.number;
            lives.become(other.lives);
            bought.become(other.bought);
            eaten.become(other.eaten);
            spoiled.become(other.spoiled);
            thrown.become(other.thrown);
            lacking.become(other.lacking);
        }
    }

    /** The rooms of the stores, and how long they are warm. */
    private static final class Stores {
        final Row room = new Row(STORES);
        final Row warmDays = new Row(STORES);

        Stores() {
            room.fill(FIRST_ROOM);
        }

        void endDay() {
            for (int store = 0; store < STORES; store++) {
                if (warmDays.at(store) > 0) {
                    warmDays.add(store, -1);
                }
            }
        }

        void become(Stores other) {
            if (other == null) {
                return;
            }
            room.become(other.room);
            warmDays.become(other.warmDays);
        }
    }

    /** The lots in their order. There is a place more than lots are allowed, for the one that is only tried. */
    private static final class Lots {
        int number;
        final Row kindOf = new Row(MAX_LOTS + 1);
        final Row storeOf = new Row(MAX_LOTS + 1);
        final Row amount = new Row(MAX_LOTS + 1);
        final Row age = new Row(MAX_LOTS + 1);

        int addOne(int kind, int store, int rations, int itsAge) {
            kindOf.put(number, kind);
            storeOf.put(number, store);
            amount.put(number, rations);
            age.put(number, itsAge);
            number++;
            return number - 1;
        }

        int split(int lot, int rations, int store) {
            amount.add(lot, -rations);
            return addOne(kindOf.at(lot), store, rations, age.at(lot));
        }

        void dropEmpty() {
            int kept = 0;
            for (int lot = 0; lot < number; lot++) {
                if (amount.at(lot) > 0) {
                    copyLot(lot, kept);
                    kept++;
                }
            }
            number = kept;
        }

        private void copyLot(int from, int to) {
            if (from != to) {
                kindOf.put(to, kindOf.at(from));
                storeOf.put(to, storeOf.at(from));
                amount.put(to, amount.at(from));
                age.put(to, age.at(from));
            }
        }

        int rations() {
            int sum = 0;
            for (int lot = 0; lot < number; lot++) {
                sum += amount.at(lot);
            }
            return sum;
        }

        int rationsIn(int store) {
            int sum = 0;
            for (int lot = 0; lot < number; lot++) {
                sum += storeOf.at(lot) == store ? amount.at(lot) : 0;
            }
            return sum;
        }

        int rationsOf(int kind) {
            int sum = 0;
            for (int lot = 0; lot < number; lot++) {
                sum += kindOf.at(lot) == kind ? amount.at(lot) : 0;
            }
            return sum;
        }

        int numberIn(int store) {
            int sum = 0;
            for (int lot = 0; lot < number; lot++) {
                sum += storeOf.at(lot) == store ? 1 : 0;
            }
            return sum;
        }

        int numberOf(int kind) {
            int sum = 0;
            for (int lot = 0; lot < number; lot++) {
                sum += kindOf.at(lot) == kind ? 1 : 0;
            }
            return sum;
        }

        long ageSum() {
            long sum = 0;
            for (int lot = 0; lot < number; lot++) {
                sum += (long) age.at(lot) * amount.at(lot);
            }
            return sum;
        }

        void become(Lots other) {
            if (other == null) {
                return;
            }
            number = other.number;
            kindOf.become(other.kindOf);
            storeOf.become(other.storeOf);
            amount.become(other.amount);
            age.become(other.age);
        }
    }

    /** The ports, kept in the order of their days. */
    private static final class Ports {
        int number;
        final Row day = new Row(MAX_PORTS);
        final Row staleness = new Row(MAX_PORTS);
        final Row prices = new Row(MAX_PORTS * MAX_KINDS);

        int onDay(int today) {
            for (int port = 0; port < number; port++) {
                if (day.at(port) == today) {
                    return port;
                }
            }
            return NONE;
        }

        int after(int today) {
            for (int port = 0; port < number; port++) {
                if (day.at(port) > today) {
                    return port;
                }
            }
            return NONE;
        }

        int priceOf(int port, int kind) {
            return prices.at(port * MAX_KINDS + kind);
        }

        void putPrice(int port, int kind, int price) {
            prices.put(port * MAX_KINDS + kind, price);
        }

        int insert(int itsDay, int itsStaleness) {
            int later = after(itsDay);
            int port = later == NONE ? number : later;
            for (int moved = number; moved > port; moved--) {
                copyPort(moved - 1, moved);
            }
            day.put(port, itsDay);
            staleness.put(port, itsStaleness);
            for (int kind = 0; kind < MAX_KINDS; kind++) {
                putPrice(port, kind, 0);
            }
            number++;
            return port;
        }

        void takeOut(int port) {
            for (int moved = port + 1; moved < number; moved++) {
                copyPort(moved, moved - 1);
            }
            number--;
        }

        private void copyPort(int from, int to) {
            day.put(to, day.at(from));
            staleness.put(to, staleness.at(from));
            for (int kind = 0; kind < MAX_KINDS; kind++) {
                putPrice(to, kind, priceOf(from, kind));
            }
        }

        void become(Ports other) {
            if (other == null) {
                return;
            }
            number = other.number;
            day.become(other.day);
            staleness.become(other.staleness);
            prices.become(other.prices);
        }
    }

    /** The menus; each has a slot for each item that it may have, and an item has an amount above 0. */
    private static final class Menus {
        int number = 1;
        final Row kindOf = new Row(MAX_MENUS * MAX_ITEMS);
        final Row amount = new Row(MAX_MENUS * MAX_ITEMS);
        final Row substitute = new Row(MAX_MENUS * MAX_ITEMS);

        int slot(int menu, int item) {
            return menu * MAX_ITEMS + item;
        }

        boolean has(int slot) {
            return amount.at(slot) > 0;
        }

        int ofDay(int day) {
            return number < 1 ? 0 : Math.floorMod(day, number);
        }

        void forget() {
            number = 1;
            amount.fill(0);
        }

        void become(Menus other) {
            if (other == null) {
                return;
            }
            number = other.number;
            kindOf.become(other.kindOf);
            amount.become(other.amount);
            substitute.become(other.substitute);
        }
    }

    /** The whole state that undo restores, and what days do with it. */
    private static final class Ship {
        int day;
        int heads = FIRST_CREW;
        int purse = FIRST_PURSE;
        int spent;
        int hungryDays;
        final Kinds kinds = new Kinds();
        final Stores stores = new Stores();
        final Lots lots = new Lots();
        final Ports ports = new Ports();
        final Menus menus = new Menus();
        /** The days left of each lot on the morning of the day that passes; outside of passDay it says nothing. */
        private final Row daysLeft = new Row(MAX_LOTS + 1);

        int lifeNow(int kind, int store) {
            return kinds.lifeIn(kind, stores.warmDays.at(store) > 0 ? DRY : store);
        }

        int roomLeft(int store) {
            return stores.room.at(store) - lots.rationsIn(store);
        }

        int refusal(int kind, int amount, int store) {
            int port = ports.onDay(day);
            if (port == NONE) {
                return 1;
            }
            int price = ports.priceOf(port, kind);
            if (price == 0) {
                return 2;
            }
            if (lifeNow(kind, store) == 0) {
                return 3;
            }
            if (roomLeft(store) < amount) {
                return 4;
            }
            if (price * amount > purse) {
                return 5;
            }
            return lots.number >= MAX_LOTS ? 6 : 0;
        }

        int purchase(int kind, int amount, int store) {
            int port = ports.onDay(day);
            int cost = ports.priceOf(port, kind) * amount;
            purse -= cost;
            spent += cost;
            kinds.bought.add(kind, amount);
            return lots.addOne(kind, store, amount, ports.staleness.at(port));
        }

        int daysToNextPort() {
            int next = ports.after(day);
            return next == NONE ? MAX_DAYS : Math.min(ports.day.at(next) - day, MAX_DAYS);
        }

        int daysLeftOf(int lot) {
            int kind = lots.kindOf.at(lot);
            int store = lots.storeOf.at(lot);
            int missing = SPOILED - lots.age.at(lot);
            int warmDays = stores.warmDays.at(store);
            int warmStep = stepFor(kinds.lifeIn(kind, DRY));
            if (missing <= warmDays * warmStep) {
                return stepsTo(missing, warmStep);
            }
            return warmDays + stepsTo(missing - warmDays * warmStep, stepFor(kinds.lifeIn(kind, store)));
        }

        int eatingPlaceOf(int lot) {
            int own = daysLeftOf(lot);
            int place = 0;
            for (int other = 0; other < lots.number; other++) {
                if (lots.kindOf.at(other) == lots.kindOf.at(lot)) {
                    int left = daysLeftOf(other);
                    place += left < own || left == own && other < lot ? 1 : 0;
                }
            }
            return place;
        }

        /** After how many days the kind is short for the first time, NONE if not in these days; they pass. */
        int firstShort(int kind, int days) {
            int before = kinds.lacking.at(kind);
            for (int passed = 0; passed < days; passed++) {
                passDay();
                if (kinds.lacking.at(kind) != before) {
                    return passed;
                }
            }
            return NONE;
        }

        void passDays(int days) {
            for (int passed = 0; passed < days; passed++) {
                passDay();
            }
        }

        private void passDay() {
            for (int lot = 0; lot < lots.number; lot++) {
                daysLeft.put(lot, daysLeftOf(lot));
            }
            int menu = menus.ofDay(day);
            int lacking = 0;
            for (int item = 0; item < MAX_ITEMS; item++) {
                lacking += serveItem(menus.slot(menu, item));
            }
            if (lacking > 0) {
                hungryDays++;
            }
            ageLots();
            stores.endDay();
            day++;
        }

        private int serveItem(int slot) {
            if (!menus.has(slot)) {
                return 0;
            }
            int kind = menus.kindOf.at(slot);
            int substitute = menus.substitute.at(slot);
            int lacking = eatOf(kind, menus.amount.at(slot) * heads);
            if (substitute != NONE) {
                lacking = eatOf(substitute, lacking);
            }
            kinds.lacking.add(kind, lacking);
            return lacking;
        }

        /** Eats of a kind what is needed, as far as there is; returns what is lacking then. */
        private int eatOf(int kind, int needed) {
            int lacking = needed;
            for (int tries = 0; tries < lots.number && lacking > 0; tries++) {
                int lot = nextToEat(kind);
                if (lot == NONE) {
                    return lacking;
                }
                int taken = Math.min(lacking, lots.amount.at(lot));
                lots.amount.add(lot, -taken);
                kinds.eaten.add(kind, taken);
                lacking -= taken;
            }
            return lacking;
        }

        private int nextToEat(int kind) {
            int next = NONE;
            for (int lot = 0; lot < lots.number; lot++) {
                if (lots.kindOf.at(lot) == kind && lots.amount.at(lot) > 0
                        && (next == NONE || daysLeft.at(lot) < daysLeft.at(next))) {
                    next = lot;
                }
            }
            return next;
        }

        /** Here the lots that are eaten up go too: with an amount of 0 they spoil nothing. */
        private void ageLots() {
            for (int lot = 0; lot < lots.number; lot++) {
                int kind = lots.kindOf.at(lot);
                lots.age.add(lot, stepFor(lifeNow(kind, lots.storeOf.at(lot))));
                if (lots.age.at(lot) >= SPOILED) {
                    kinds.spoiled.add(kind, lots.amount.at(lot));
                    lots.amount.put(lot, 0);
                }
            }
            lots.dropEmpty();
        }

        private static int stepFor(int life) {
            return life < 1 ? SPOILED : SPOILED / life;
        }

        private static int stepsTo(int missing, int step) {
            return step < 1 ? 0 : (missing + step - 1) / step;
        }

        void become(Ship other) {
            if (other == null) {
                return;
            }
            day = other.day;
            heads = other.heads;
            purse = other.purse;
            spent = other.spent;
            hungryDays = other.hungryDays;
            kinds.become(other.kinds);
            stores.become(other.stores);
            lots.become(other.lots);
            ports.become(other.ports);
            menus.become(other.menus);
        }
    }

    /** The saved states, in a ring of ships that are made once. */
    private static final class History {
        int number;
        private int oldest;
        private final Ship[] states = new Ship[MAX_SAVED];

        History() {
            for (int slot = 0; slot < states.length; slot++) {
                states[slot] = new Ship();
            }
        }

        void save(Ship ship) {
            if (number >= MAX_SAVED) {
                oldest = (oldest + 1) % MAX_SAVED;
                number--;
            }
            Ship state = stateAt(number);
            if (state != null) {
                state.become(ship);
            }
            number++;
        }

        void restore(Ship ship) {
            if (number < 1 || ship == null) {
                return;
            }
            number--;
            ship.become(stateAt(number));
        }

        private Ship stateAt(int fromOldest) {
            int slot = (oldest + fromOldest) % MAX_SAVED;
            return slot < 0 || slot >= states.length ? null : states[slot];
        }
    }

    /** The buffer, and its reader, which goes from place to place of the text of menus. */
    private static final class MenuText {
        private static final int MENU_BEGINS = 0;
        private static final int AFTER_DASH = 1;
        private static final int ITEM_BEGINS = 2;
        private static final int AFTER_KIND = 3;
        private static final int AFTER_STAR = 4;
        private static final int AFTER_AMOUNT = 5;
        private static final int AFTER_SLASH = 6;
        private static final int AFTER_SUBSTITUTE = 7;

        int length;
        final Row codes = new Row(MAX_TEXT);
        /** What was read last, and the highest kind in it. */
        final Menus menus = new Menus();
        int highestKind;
        private int place;
        private int item;

        /** Reads the buffer up to its first error, and returns where that is; its length if there is none. */
        int readMenus() {
            menus.forget();
            highestKind = NONE;
            place = MENU_BEGINS;
            item = 0;
            for (int index = 0; index < length; index++) {
                if (!accepts(codes.at(index))) {
                    return index;
                }
            }
            return length;
        }

        /** Whether the text could end where the reader is. */
        boolean isComplete() {
            return place == AFTER_DASH || place == AFTER_AMOUNT || place == AFTER_SUBSTITUTE;
        }

        private boolean accepts(int code) {
            switch (place) {
                case MENU_BEGINS: return code == '-' ? comesTo(AFTER_DASH) : acceptsKind(code);
                case AFTER_DASH: return code == ';' && beginsMenu();
                case ITEM_BEGINS: return acceptsKind(code);
                case AFTER_KIND: return code == '*' && comesTo(AFTER_STAR);
                case AFTER_STAR: return acceptsAmount(code);
                case AFTER_AMOUNT: return code == '/' ? comesTo(AFTER_SLASH) : acceptsSeparator(code);
                case AFTER_SLASH: return acceptsSubstitute(code);
                default: return acceptsSeparator(code);
            }
        }

        private boolean comesTo(int next) {
            place = next;
            return true;
        }

        private boolean acceptsKind(int code) {
            if (!isWithin(code, '0', '7')) {
                return false;
            }
            menus.kindOf.put(slot(), code - '0');
            menus.substitute.put(slot(), NONE);
            highestKind = Math.max(highestKind, code - '0');
            return comesTo(AFTER_KIND);
        }

        private boolean acceptsAmount(int code) {
            if (!isWithin(code, '1', '9')) {
                return false;
            }
            menus.amount.put(slot(), code - '0');
            return comesTo(AFTER_AMOUNT);
        }

        private boolean acceptsSubstitute(int code) {
            if (!isWithin(code, '0', '7') || code - '0' == menus.kindOf.at(slot())) {
                return false;
            }
            menus.substitute.put(slot(), code - '0');
            highestKind = Math.max(highestKind, code - '0');
            return comesTo(AFTER_SUBSTITUTE);
        }

        private boolean acceptsSeparator(int code) {
            if (code == ';') {
                return beginsMenu();
            }
            if (code != ',' || item >= MAX_ITEMS - 1) {
                return false;
            }
            item++;
            return comesTo(ITEM_BEGINS);
        }

        private boolean beginsMenu() {
            if (menus.number >= MAX_MENUS) {
                return false;
            }
            menus.number++;
            item = 0;
            return comesTo(MENU_BEGINS);
        }

        private int slot() {
            return menus.slot(menus.number - 1, item);
        }
    }
}
