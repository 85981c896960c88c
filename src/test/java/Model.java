import java.util.ArrayDeque;
import java.util.ArrayList;
import java.util.Comparator;
import java.util.Deque;
import java.util.List;
import java.util.TreeMap;

/**
 * The document once more, as plainly as its words and without a thought of speed: days left are counted by letting
 * days pass, lots are eaten off sorted lists, menus are read by a grammar, and a saved state is a deep copy.
 */
final class Model {
    static final class Lot {
        int kind;
        int store;
        int amount;
        int age;

        Lot(int kind, int store, int amount, int age) {
            this.kind = kind;
            this.store = store;
            this.amount = amount;
            this.age = age;
        }
    }

    static final class Kind {
        int[] life;
        int bought;
        int eaten;
        int spoiled;
        int thrown;
        int lacking;
    }

    static final class Port {
        int staleness;
        int[] price = new int[8];
    }

    static final class Item {
        int kind;
        int amount;
        int substitute = -1;
    }

    static final class State {
        int day = 0;
        int heads = 10;
        int purse = 10000;
        int spent = 0;
        int hungry = 0;
        int[] room = {1000, 1000, 1000};
        int[] warm = {0, 0, 0};
        List<Kind> kinds = new ArrayList<>();
        List<Lot> lots = new ArrayList<>();
        TreeMap<Integer, Port> ports = new TreeMap<>();
        List<List<Item>> menus = new ArrayList<>(List.of(List.of()));

        State copy() {
            State copy = new State();
            copy.day = day;
            copy.heads = heads;
            copy.purse = purse;
            copy.spent = spent;
            copy.hungry = hungry;
            copy.room = room.clone();
            copy.warm = warm.clone();
            for (Kind kind : kinds) {
                Kind other = new Kind();
                other.life = kind.life;
                other.bought = kind.bought;
                other.eaten = kind.eaten;
                other.spoiled = kind.spoiled;
                other.thrown = kind.thrown;
                other.lacking = kind.lacking;
                copy.kinds.add(other);
            }
            for (Lot lot : lots) {
                copy.lots.add(new Lot(lot.kind, lot.store, lot.amount, lot.age));
            }
            for (int portDay : ports.keySet()) {
                Port other = new Port();
                other.staleness = ports.get(portDay).staleness;
                other.price = ports.get(portDay).price.clone();
                copy.ports.put(portDay, other);
            }
            copy.menus = menus;
            return copy;
        }

        int lifeIn(int kind, int store, boolean isWarm) {
            return kinds.get(kind).life[isWarm ? 0 : store];
        }

        int daysLeft(Lot lot) {
            int age = lot.age;
            int days = 0;
            while (age < 1000) {
                age += 1000 / Math.max(1, lifeIn(lot.kind, lot.store, warm[lot.store] > days));
                days++;
            }
            return days;
        }

        List<Lot> inEatingOrder(int kind) {
            List<Lot> order = new ArrayList<>();
            for (Lot lot : lots) {
                if (lot.kind == kind) {
                    order.add(lot);
                }
            }
            order.sort(Comparator.comparingInt(this::daysLeft));
            return order;
        }

        int eat(int kind, int need) {
            for (Lot lot : inEatingOrder(kind)) {
                int eaten = Math.min(need, lot.amount);
                lot.amount -= eaten;
                need -= eaten;
                kinds.get(kind).eaten += eaten;
            }
            return need;
        }

        void passDay() {
            boolean isHungry = false;
            for (Item item : menus.get(day % menus.size())) {
                int need = eat(item.kind, item.amount * heads);
                if (item.substitute >= 0) {
                    need = eat(item.substitute, need);
                }
                kinds.get(item.kind).lacking += need;
                isHungry |= need > 0;
            }
            hungry += isHungry ? 1 : 0;
            lots.removeIf(lot -> lot.amount == 0);
            for (Lot lot : lots) {
                lot.age += 1000 / Math.max(1, lifeIn(lot.kind, lot.store, warm[lot.store] > 0));
            }
            for (Lot lot : lots) {
                kinds.get(lot.kind).spoiled += lot.age >= 1000 ? lot.amount : 0;
            }
            lots.removeIf(lot -> lot.age >= 1000);
            for (int store = 0; store < 3; store++) {
                warm[store] = Math.max(0, warm[store] - 1);
            }
            day++;
        }

        State after(int days) {
            State then = copy();
            for (int passed = 0; passed < days; passed++) {
                then.passDay();
            }
            return then;
        }

        int inStore(int store) {
            return lots.stream().filter(lot -> lot.store == store).mapToInt(lot -> lot.amount).sum();
        }

        int rations() {
            return lots.stream().mapToInt(lot -> lot.amount).sum();
        }

        int portOn(int wanted) {
            return ports.containsKey(wanted) ? ports.headMap(wanted).size() : -1;
        }

        int portAfter(int today) {
            Integer next = ports.higherKey(today);
            return next == null ? -1 : portOn(next);
        }

        int refusal(int kind, int amount, int store) {
            Port port = ports.get(day);
            if (port == null) return 1;
            if (port.price[kind] == 0) return 2;
            if (lifeIn(kind, store, warm[store] > 0) == 0) return 3;
            if (inStore(store) + amount > room[store]) return 4;
            if (port.price[kind] * amount > purse) return 5;
            return lots.size() == 30 ? 6 : 0;
        }
    }

    private State now = new State();
    private final Deque<State> saved = new ArrayDeque<>();
    private String buffer = "";

    private static void index(boolean exists) {
        if (!exists) throw new IndexOutOfBoundsException();
    }

    private static void argument(boolean isGood) {
        if (!isGood) throw new IllegalArgumentException();
    }

    private static void state(boolean isGood) {
        if (!isGood) throw new IllegalStateException();
    }

    private static boolean in(int value, int least, int most) {
        return least <= value && value <= most;
    }

    private boolean isKind(int kind) {
        return in(kind, 0, now.kinds.size() - 1);
    }

    private boolean isLot(int lot) {
        return in(lot, 0, now.lots.size() - 1);
    }

    private boolean isPort(int port) {
        return in(port, 0, now.ports.size() - 1);
    }

    private int portDay(int port) {
        return new ArrayList<>(now.ports.keySet()).get(port);
    }

    private Port portOf(int port) {
        return now.ports.get(portDay(port));
    }

    private void save() {
        saved.addLast(now.copy());
        if (saved.size() > 6) saved.removeFirst();
    }

    int addKind(int dry, int cool, int frozen) {
        argument(in(dry, 0, 200) && in(cool, 0, 200) && in(frozen, 0, 200));
        state(now.kinds.size() < 8);
        save();
        Kind kind = new Kind();
        kind.life = new int[] {dry, cool, frozen};
        now.kinds.add(kind);
        return now.kinds.size() - 1;
    }

    int setRoom(int store, int room) {
        index(in(store, 0, 2));
        argument(in(room, 0, 5000));
        state(now.inStore(store) <= room);
        save();
        int previous = now.room[store];
        now.room[store] = room;
        return previous;
    }

    int warm(int store, int days) {
        index(in(store, 1, 2));
        argument(in(days, 0, 30));
        save();
        int previous = now.warm[store];
        now.warm[store] = days;
        return previous;
    }

    int setCrew(int heads) {
        argument(in(heads, 1, 100));
        save();
        int previous = now.heads;
        now.heads = heads;
        return previous;
    }

    int pay(int coins) {
        long then = (long) now.purse + (long) coins;
        argument(then >= 0 && then <= 1000000);
        save();
        now.purse += coins;
        return now.purse;
    }

    int addPort(int day, int staleness) {
        argument(in(day, 0, 500) && in(staleness, 0, 900));
        state(now.ports.size() < 8 && !now.ports.containsKey(day));
        save();
        Port port = new Port();
        port.staleness = staleness;
        now.ports.put(day, port);
        return now.portOn(day);
    }

    int removePort(int port) {
        index(isPort(port));
        save();
        int day = portDay(port);
        now.ports.remove(day);
        return day;
    }

    int setPrice(int port, int kind, int price) {
        index(isPort(port) && isKind(kind));
        argument(in(price, 0, 100));
        save();
        int previous = portOf(port).price[kind];
        portOf(port).price[kind] = price;
        return previous;
    }

    int buy(int kind, int amount, int store) {
        state(whyNot(kind, amount, store) == 0);
        save();
        Port port = now.ports.get(now.day);
        now.purse -= port.price[kind] * amount;
        now.spent += port.price[kind] * amount;
        now.kinds.get(kind).bought += amount;
        now.lots.add(new Lot(kind, store, amount, port.staleness));
        return now.lots.size() - 1;
    }

    int move(int lot, int amount, int store) {
        index(isLot(lot) && in(store, 0, 2));
        Lot moved = now.lots.get(lot);
        argument(in(amount, 1, moved.amount) && moved.store != store);
        state(now.inStore(store) + amount <= now.room[store]);
        state(amount == moved.amount || now.lots.size() < 30);
        save();
        if (amount == moved.amount) {
            moved.store = store;
            return lot;
        }
        moved.amount -= amount;
        now.lots.add(new Lot(moved.kind, store, amount, moved.age));
        return now.lots.size() - 1;
    }

    int discard(int lot, int amount) {
        index(isLot(lot));
        argument(in(amount, 1, now.lots.get(lot).amount));
        save();
        now.lots.get(lot).amount -= amount;
        now.kinds.get(now.lots.get(lot).kind).thrown += amount;
        now.lots.removeIf(each -> each.amount == 0);
        return now.rations();
    }

    int pass(int days) {
        argument(in(days, 1, 60));
        save();
        int before = total(now, 1);
        now = now.after(days);
        return total(now, 1) - before;
    }

    int append(int code) {
        argument(in(code, 33, 126));
        state(buffer.length() < 60);
        buffer += (char) code;
        return buffer.length();
    }

    int clearBuffer() {
        int previous = buffer.length();
        buffer = "";
        return previous;
    }

    private static final String ITEM = "[0-7]\\*[1-9](/[0-7])?";

    /** Whether the text is one of menus. */
    private static boolean isText(String text) {
        String[] menus = text.split(";", -1);
        if (menus.length > 10) return false;
        for (String menu : menus) {
            if (!menu.equals("-") && !isMenu(menu)) return false;
        }
        return true;
    }

    private static boolean isMenu(String menu) {
        String[] items = menu.split(",", -1);
        if (items.length > 4) return false;
        for (String item : items) {
            if (!item.matches(ITEM)) return false;
            if (item.length() == 5 && item.charAt(0) == item.charAt(4)) return false;
        }
        return true;
    }

    /** Whether a text of menus begins with this: then one of these few ends makes it one. */
    private static boolean isBeginning(String text) {
        for (String end : new String[] {"", "-", "0*1", "*1", "1", "0", "7"}) {
            if (isText(text + end)) return true;
        }
        return false;
    }

    int firstError() {
        for (int length = 1; length <= buffer.length(); length++) {
            if (!isBeginning(buffer.substring(0, length))) return length - 1;
        }
        return buffer.length();
    }

    int load() {
        argument(isText(buffer));
        List<List<Item>> menus = new ArrayList<>();
        for (String menu : buffer.split(";", -1)) {
            List<Item> items = new ArrayList<>();
            for (String text : menu.equals("-") ? new String[0] : menu.split(",")) {
                Item item = new Item();
                item.kind = text.charAt(0) - '0';
                item.amount = text.charAt(2) - '0';
                item.substitute = text.length() == 5 ? text.charAt(4) - '0' : -1;
                items.add(item);
            }
            menus.add(items);
        }
        for (List<Item> items : menus) {
            for (Item item : items) {
                state(isKind(item.kind) && (item.substitute == -1 || isKind(item.substitute)));
            }
        }
        save();
        now.menus = menus;
        buffer = "";
        return menus.size();
    }

    int undo() {
        state(!saved.isEmpty());
        now = saved.removeLast();
        return saved.size();
    }

    int lotProperty(int lot, int what) {
        index(isLot(lot));
        argument(in(what, 0, 5));
        Lot it = now.lots.get(lot);
        int[] properties = {it.kind, it.store, it.amount, it.age, now.daysLeft(it),
            now.inEatingOrder(it.kind).indexOf(it)};
        return properties[what];
    }

    int storeProperty(int store, int what) {
        index(in(store, 0, 2));
        argument(in(what, 0, 3));
        int lots = (int) now.lots.stream().filter(lot -> lot.store == store).count();
        return new int[] {now.room[store], now.inStore(store), lots, now.warm[store]}[what];
    }

    int kindProperty(int kind, int what) {
        index(isKind(kind));
        argument(in(what, 0, 9));
        Kind it = now.kinds.get(kind);
        List<Lot> lots = now.inEatingOrder(kind);
        int inLots = lots.stream().mapToInt(lot -> lot.amount).sum();
        return new int[] {it.life[0], it.life[1], it.life[2], it.bought, it.eaten, it.spoiled, it.thrown, inLots,
            it.lacking, lots.size()}[what];
    }

    int portProperty(int port, int what) {
        index(isPort(port));
        argument(what == 0 || what == 1 || in(what, 10, 9 + now.kinds.size()));
        return what == 0 ? portDay(port) : what == 1 ? portOf(port).staleness : portOf(port).price[what - 10];
    }

    int menuProperty(int menu, int item, int what) {
        index(in(menu, 0, now.menus.size() - 1) && in(item, 0, 3));
        argument(in(what, 0, 2));
        if (item >= now.menus.get(menu).size()) return -1;
        Item it = now.menus.get(menu).get(item);
        return new int[] {it.kind, it.amount, it.substitute}[what];
    }

    int count(int what) {
        argument(in(what, 0, 12));
        return new int[] {now.day, now.kinds.size(), now.lots.size(), now.ports.size(), now.menus.size(), now.heads,
            now.purse, now.spent, now.hungry, saved.size(), now.portOn(now.day), now.portAfter(now.day),
            now.rations()}[what];
    }

    int whyNot(int kind, int amount, int store) {
        index(isKind(kind) && in(store, 0, 2));
        argument(in(amount, 1, 2000));
        return now.refusal(kind, amount, store);
    }

    /** Of all kinds, what was 0: eaten, 1: spoiled, 2: short. */
    private static int total(State state, int what) {
        int sum = 0;
        for (Kind kind : state.kinds) {
            sum += new int[] {kind.eaten, kind.spoiled, kind.lacking}[what];
        }
        return sum;
    }

    int ifPass(int days, int what) {
        argument(in(days, 1, 60) && in(what, 0, 4));
        State then = now.after(days);
        if (what == 4) return then.rations();
        if (what == 3) return then.hungry - now.hungry;
        return total(then, what) - total(now, what);
    }

    int spoils(int kind, int days) {
        index(isKind(kind));
        argument(in(days, 1, 60));
        return now.after(days).kinds.get(kind).spoiled - now.kinds.get(kind).spoiled;
    }

    private static int firstShort(State state, int kind, int days) {
        State then = state.copy();
        for (int passed = 0; passed < days; passed++) {
            then.passDay();
            if (then.kinds.get(kind).lacking > state.kinds.get(kind).lacking) return passed;
        }
        return -1;
    }

    int shortIn(int kind) {
        index(isKind(kind));
        return firstShort(now, kind, 60);
    }

    int bestStore(int kind) {
        index(isKind(kind));
        int best = -1;
        for (int store = 2; store >= 0; store--) {
            int life = now.lifeIn(kind, store, now.warm[store] > 0);
            if (life > 0 && (best == -1 || life >= now.lifeIn(kind, best, now.warm[best] > 0))) best = store;
        }
        return best;
    }

    int leastPurchase(int kind, int store) {
        index(isKind(kind) && in(store, 0, 2));
        Integer next = now.ports.higherKey(now.day);
        int days = next == null || next - now.day > 60 ? 60 : next - now.day;
        for (int amount = 0; amount <= 1000; amount += 10) {
            State tried = now.copy();
            tried.lots.add(new Lot(kind, store, amount, 0));
            if (firstShort(tried, kind, days) == -1) return amount;
        }
        return -1;
    }

    int cheapest(int kind) {
        index(isKind(kind));
        int best = -1;
        for (int port = now.ports.size() - 1; port >= 0; port--) {
            int price = portOf(port).price[kind];
            if (price == 0 || portDay(port) < now.day) continue;
            if (best == -1 || price <= portOf(best).price[kind]) best = port;
        }
        return best;
    }

    double meanAge() {
        double sum = 0;
        for (Lot lot : now.lots) {
            sum += lot.age * lot.amount;
        }
        return now.lots.isEmpty() ? 0.0 : sum / now.rations();
    }

    long digest() {
        List<Long> values = new ArrayList<>();
        for (int what = 0; what <= 12; what++) values.add((long) count(what));
        for (int lot = 0; lot < now.lots.size(); lot++) {
            for (int what = 0; what <= 5; what++) values.add((long) lotProperty(lot, what));
        }
        for (int store = 0; store < 3; store++) {
            for (int what = 0; what <= 3; what++) values.add((long) storeProperty(store, what));
        }
        for (int kind = 0; kind < now.kinds.size(); kind++) {
            for (int what = 0; what <= 9; what++) values.add((long) kindProperty(kind, what));
            values.add((long) shortIn(kind));
            values.add((long) bestStore(kind));
        }
        for (int port = 0; port < now.ports.size(); port++) {
            values.add((long) portProperty(port, 0));
            values.add((long) portProperty(port, 1));
            for (int kind = 0; kind < now.kinds.size(); kind++) values.add((long) portProperty(port, 10 + kind));
        }
        for (int menu = 0; menu < now.menus.size(); menu++) {
            for (int item = 0; item < 4; item++) {
                for (int what = 0; what <= 2; what++) values.add((long) menuProperty(menu, item, what));
            }
        }
        for (int what = 0; what <= 4; what++) values.add((long) ifPass(14, what));
        values.add(Double.doubleToLongBits(meanAge()));
        values.add((long) buffer.length());
        for (char code : buffer.toCharArray()) values.add((long) code);
        long hash = 2203;
        for (long value : values) hash = 31 * hash + value;
        return hash;
    }
}
