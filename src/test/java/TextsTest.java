/** Promises 14 to 18. */
public final class TextsTest {
    private static final Class<IllegalArgumentException> ARGUMENT = IllegalArgumentException.class;
    private static final Class<IllegalStateException> STATE = IllegalStateException.class;
    private static final Checks CHECKS = new Checks();

    public static void main(String[] args) {
        append();
        clearBuffer();
        firstError();
        load();
        loadIsRefused();
        undo();
        CHECKS.end("TextsTest");
    }

    private static void append() {
        ShipStores ship = new ShipStores();
        CHECKS.equal("append(33)", ship.append(33), 1);
        CHECKS.equal("append(126)", ship.append(126), 2);
        CHECKS.equal("append is not undoable", ship.count(9), 0);
        for (int bad : new int[] {32, 127, -1, 0, Integer.MIN_VALUE, Integer.MAX_VALUE}) {
            CHECKS.refused("append(" + bad + ")", ship, ARGUMENT, () -> ship.append(bad));
        }
        for (int length = 3; length <= 60; length++) {
            CHECKS.equal("append", ship.append('-'), length);
        }
        CHECKS.refused("append to a full buffer", ship, STATE, () -> ship.append('-'));
        CHECKS.refused("append of a wrong code to a full buffer", ship, ARGUMENT, () -> ship.append(32));
    }

    private static void clearBuffer() {
        ShipStores ship = new ShipStores();
        Checks.write(ship, "0*1");
        CHECKS.equal("clearBuffer", ship.clearBuffer(), 3);
        CHECKS.equal("clearBuffer is not undoable", ship.count(9), 0);
        CHECKS.equal("clearBuffer again", ship.clearBuffer(), 0);
        CHECKS.equal("nothing is in it", ship.firstError(), 0);
        CHECKS.equal("append", ship.append('-'), 1);
    }

    private static void errorAt(String text, int due) {
        ShipStores ship = new ShipStores();
        Checks.write(ship, text);
        long before = ship.digest();
        CHECKS.equal("firstError of " + text, ship.firstError(), due);
        CHECKS.equal("firstError again of " + text, ship.firstError(), due);
        CHECKS.equal("firstError changes nothing", ship.digest(), before);
    }

    private static void firstError() {
        String[] right = {"", "-", "0", "0*", "0*1", "0*1/", "0*1/1", "7*9/6", "0*1/7", "-;", "0*1,", "0*1;", "0*1/2,", "0*1/2;",
            "0*1,1*2,2*3,3*4", "0*1,1*2,2*3,3*4/5;6*7", "-;-;-;-;-;-;-;-;-;-", "0*1;0*1;0*1;0*1;0*1;0*1;0*1;0*1;0*1;0*1"};
        for (String text : right) {
            errorAt(text, text.length());
        }
        String[] wrongAtTheEnd = {"x", "8", "9", ";", ",", "*", "/", "--", "-0", "-,", "-*", "-/", "00", "0-", "0/", "0,", "0;",
            "0*0", "0*:", "0*-", "0**", "0*11", "0*1*", "0*1-", "0*1/8", "0*1/0", "3*1/3", "0*1/-", "0*1/;", "0*1/1/",
            "0*1/12", "0*1/1*", "0*1/1-", "-;;", "-;,", "0*1;;", "0*1,,", "0*1,-", "0*1,;", "0*1,8", "0*1,1*2,2*3,3*4,",
            "0*1,1*2,2*3,3*4/5,", "0*1,1*2,2*3,3*4;1*1,1*1,1*1,1*1,", "-;-;-;-;-;-;-;-;-;-;",
            "0*1;0*1;0*1;0*1;0*1;0*1;0*1;0*1;0*1;0*1/2;", "0!", "~"};
        for (String text : wrongAtTheEnd) {
            errorAt(text, text.length() - 1);
            errorAt(text + "0*1", text.length() - 1);
        }
    }

    private static void load() {
        ShipStores ship = Ships.inPort();
        ship.addKind(1, 1, 1);
        Checks.write(ship, "1*9/2;-;0*1,2*2/0,1*3,1*4/0");
        CHECKS.equal("load", ship.load(), 3);
        CHECKS.equal("the buffer is clear", ship.clearBuffer(), 0);
        CHECKS.equal("menus", ship.count(4), 3);
        int none = ShipStores.NONE;
        int[][][] due = {{{1, 9, 2}, {none, none, none}, {none, none, none}, {none, none, none}},
            {{none, none, none}, {none, none, none}, {none, none, none}, {none, none, none}},
            {{0, 1, none}, {2, 2, 0}, {1, 3, none}, {1, 4, 0}}};
        for (int menu = 0; menu < 3; menu++) {
            for (int item = 0; item < 4; item++) {
                for (int what = 0; what < 3; what++) {
                    CHECKS.equal("menu(" + menu + ", " + item + ", " + what + ")", ship.menu(menu, item, what),
                        due[menu][item][what]);
                }
            }
        }
        CHECKS.equal("load fewer", Checks.serve(ship, "0*1"), 1);
        CHECKS.equal("saved states", ship.count(9), 6);
        CHECKS.equal("no item of the menus before", ship.menu(0, 1, 0), none);
        CHECKS.equal("no substitute of the menus before", ship.menu(0, 0, 2), none);
        Checks.write(ship, "xy");
        CHECKS.equal("undo", ship.undo(), 5);
        CHECKS.equal("undo leaves the buffer", ship.clearBuffer(), 2);
        CHECKS.equal("undo restores the menus", ship.count(4), 3);
        CHECKS.equal("undo restores the items", ship.menu(2, 3, 1), 4);
        CHECKS.equal("load ten", Checks.serve(ship, "-;-;-;-;-;-;-;-;-;0*1,0*2,0*3,2*9/1"), 10);
        CHECKS.equal("the last kind of the tenth", ship.menu(9, 3, 0), 2);
        CHECKS.equal("the last amount of the tenth", ship.menu(9, 3, 1), 9);
        CHECKS.equal("the last substitute of the tenth", ship.menu(9, 3, 2), 1);
    }

    private static void loadIsRefused() {
        String[] texts = {"", "0", "0*", "0*1/", "0*1,", "0*1;", "-;", "x", "0*1x", "-;-;-;-;-;-;-;-;-;-;-", "0*1/0", "7*", "5*0"};
        for (String text : texts) {
            ShipStores ship = Ships.inPort();
            Checks.write(ship, text);
            CHECKS.refused("load of " + text, ship, ARGUMENT, ship::load);
            CHECKS.equal("the buffer stays", ship.clearBuffer(), text.length());
        }
        String[] unknown = {"2*1", "0*1/2", "0*1;1*1,7*1", "7*1/0,0*1"};
        for (String text : unknown) {
            ShipStores ship = Ships.inPort();
            Checks.write(ship, text);
            CHECKS.refused("load of " + text, ship, STATE, ship::load);
            CHECKS.equal("the buffer stays", ship.clearBuffer(), text.length());
            CHECKS.equal("another load", Checks.serve(ship, "0*1,1*1;-"), 2);
        }
    }

    private static void undo() {
        ShipStores ship = new ShipStores();
        for (int heads = 11; heads <= 17; heads++) {
            ship.setCrew(heads);
        }
        CHECKS.equal("saved states", ship.count(9), 6);
        Checks.write(ship, "-");
        for (int left = 5; left >= 0; left--) {
            CHECKS.equal("undo", ship.undo(), left);
            CHECKS.equal("heads", ship.count(5), 11 + left);
        }
        CHECKS.equal("the buffer stays", ship.clearBuffer(), 1);
        CHECKS.refused("the seventh undo", ship, STATE, ship::undo);
        ship.setCrew(20);
        ship.addKind(1, 2, 3);
        ship.undo();
        ship.addPort(7, 8);
        CHECKS.equal("undo after undo", ship.undo(), 1);
        CHECKS.equal("heads", ship.count(5), 20);
        CHECKS.equal("undo to the first", ship.undo(), 0);
        CHECKS.equal("heads", ship.count(5), 11);
        for (int heads = 1; heads <= 20; heads++) {
            ship.setCrew(heads);
            if (heads % 3 == 0) {
                ship.undo();
            }
        }
        CHECKS.equal("saved states in a ring", ship.count(9), 6);
        int[] due = {19, 17, 16, 14, 13, 11};
        for (int index = 0; index < due.length; index++) {
            ship.undo();
            CHECKS.equal("heads in a ring", ship.count(5), due[index]);
        }
    }
}
