/** Counts the checks that fail, and tells of each. */
final class Checks {
    /** A call whose answer is a number. */
    interface Call {
        long answer();
    }

    private int made = 0;
    private int failed = 0;

    void equal(String what, long got, long due) {
        made++;
        if (got != due) {
            fail(what + " answered " + got + ", due is " + due);
        }
    }

    void holds(String what, boolean stands) {
        made++;
        if (!stands) {
            fail(what);
        }
    }

    void fail(String text) {
        failed++;
        System.out.println(text);
    }

    /**
     * The call throws just this exception and changes nothing that the digest sees. If it does not throw, the program
     * ends, as a farther argument may hang.
     */
    void refused(String what, ShipStores ship, Class<? extends RuntimeException> due, Call call) {
        made++;
        long before = ship.digest();
        try {
            fail(what + " answered " + call.answer() + ", due is " + due.getSimpleName());
            end("stopped");
        } catch (RuntimeException thrown) {
            if (thrown.getClass() != due) {
                fail(what + " threw " + thrown + ", due is " + due.getSimpleName());
            }
        }
        if (ship.digest() != before) {
            fail(what + " changed the state, though it was refused");
        }
    }

    /** The call saves one state, and undo brings all that was before it. */
    void undoable(String what, ShipStores ship, long due, Call call) {
        int saved = ship.count(9);
        long before = stateWithoutSaved(ship);
        equal(what, call.answer(), due);
        equal(what + ": saved states", ship.count(9), Math.min(saved + 1, 6));
        long after = ship.digest();
        int left = ship.undo();
        equal(what + ": saved states after undo", left, Math.min(saved, 5));
        equal(what + ": state after undo", stateWithoutSaved(ship), before);
        equal(what + ", again", call.answer(), due);
        equal(what + ", again: digest", ship.digest(), after);
    }

    private static long stateWithoutSaved(ShipStores ship) {
        long hash = 17;
        for (int what = 0; what <= 12; what++) {
            hash = 1009 * hash + (what == 9 ? 0 : ship.count(what));
        }
        for (int lot = 0; lot < ship.count(2); lot++) {
            for (int what = 0; what <= 5; what++) {
                hash = 1009 * hash + ship.lot(lot, what);
            }
        }
        for (int store = 0; store < 3; store++) {
            for (int what = 0; what <= 3; what++) {
                hash = 1009 * hash + ship.store(store, what);
            }
        }
        for (int kind = 0; kind < ship.count(1); kind++) {
            for (int what = 0; what <= 9; what++) {
                hash = 1009 * hash + ship.kind(kind, what);
            }
        }
        for (int port = 0; port < ship.count(3); port++) {
            hash = 1009 * hash + ship.port(port, 0);
            hash = 1009 * hash + ship.port(port, 1);
            for (int kind = 0; kind < ship.count(1); kind++) {
                hash = 1009 * hash + ship.port(port, 10 + kind);
            }
        }
        for (int menu = 0; menu < ship.count(4); menu++) {
            for (int item = 0; item < 4; item++) {
                for (int what = 0; what <= 2; what++) {
                    hash = 1009 * hash + ship.menu(menu, item, what);
                }
            }
        }
        return hash;
    }

    void end(String name) {
        if (failed > 0) {
            System.out.println(name + ": " + failed + " of " + made + " checks failed");
            System.exit(1);
        }
        System.out.println(name + ": " + made + " checks held");
    }

    /** Puts a text at the end of the buffer. */
    static void write(ShipStores ship, String text) {
        for (int index = 0; index < text.length(); index++) {
            ship.append(text.charAt(index));
        }
    }

    /** Makes a text the menus of the ship. */
    static int serve(ShipStores ship, String menus) {
        ship.clearBuffer();
        write(ship, menus);
        return ship.load();
    }
}
