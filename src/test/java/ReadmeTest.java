import java.io.IOException;
import java.lang.reflect.Method;
import java.lang.reflect.Modifier;
import java.nio.file.Files;
import java.nio.file.Path;
import java.util.ArrayList;
import java.util.List;
import java.util.stream.Collectors;
import java.util.stream.Stream;

/** README.md's example runs and answers as it says, and the page names all methods and tests. */
public final class ReadmeTest {
    private static final String BEGINS = "// README.md's example begins";
    private static final String ENDS = "// README.md's example ends";
    private static final String MENUS = "0*2/1,3*1;-";
    private static final Checks CHECKS = new Checks();

    public static void main(String[] args) throws IOException {
        example();
        exampleIsThePages();
        menus();
        String page = Files.readString(Path.of("README.md"));
        CHECKS.holds("the page has the menus " + MENUS, page.contains("`" + MENUS + "`"));
        for (Method method : ShipStores.class.getDeclaredMethods()) {
            if (Modifier.isPublic(method.getModifiers())) {
                CHECKS.holds("the page does not name " + method, page.contains("`" + method.getName() + "`"));
            }
        }
        for (String test : tests()) {
            CHECKS.holds("the page does not name " + test, page.contains("`" + test + "`"));
        }
        CHECKS.end("ReadmeTest");
    }

    /** Lines that begin with CHECKS are the test's own, all the others the page's. */
    private static void example() {
        // README.md's example begins
        ShipStores ship = new ShipStores();             // on the day 0, with 10 heads and 10000 coins
        CHECKS.equal("the day", ship.count(0), 0);
        CHECKS.equal("heads", ship.count(5), 10);
        CHECKS.equal("coins", ship.count(6), 10000);
        int bread = ship.addKind(10, 30, 100);          // days that it keeps dry, cool and frozen
        int home = ship.addPort(0, 100);                // on the day 0; what is bought there has the age 100 of 1000
        ship.addPort(6, 0);                             // the next port, on the day 6
        ship.setPrice(home, bread, 3);                  // coins for a ration
        for (char sign : "0*1".toCharArray()) {         // one menu for all days: a ration of bread a head
            ship.append(sign);
        }
        ship.load();
        CHECKS.equal("menus", ship.count(4), 1);
        int store = ship.bestStore(bread);              // 2: it keeps longest frozen
        CHECKS.equal("the best store", store, 2);
        int amount = ship.leastPurchase(bread, store);  // 60 rations until the next port, NONE if 1000 are too few
        CHECKS.equal("the least purchase", amount, 60);
        int reason = ship.why(bread, amount, store);    // 0: the purchase would not be refused
        CHECKS.equal("the reason", reason, 0);
        int lot = ship.buy(bread, amount, store);       // the lot 0, for 180 coins
        CHECKS.equal("the lot", lot, 0);
        CHECKS.equal("its age", ship.lot(lot, 3), 100);
        CHECKS.equal("coins spent", ship.count(7), 180);
        int days = ship.shortIn(bread);                 // after 6 days there is too little bread
        CHECKS.equal("short in", days, 6);
        ship.pass(3);
        int left = ship.count(12);                      // 30 rations in all lots
        CHECKS.equal("rations", left, 30);
        ship.undo();                                    // the three days have not passed
        CHECKS.equal("the day", ship.count(0), 0);
        CHECKS.equal("rations", ship.count(12), 60);
        // README.md's example ends
    }

    private static void exampleIsThePages() throws IOException {
        List<String> own = between(Path.of("src/test/java/ReadmeTest.java"), BEGINS, ENDS);
        own.removeIf(line -> line.startsWith("CHECKS."));
        List<String> pages = between(Path.of("README.md"), "```java", "```");
        CHECKS.holds("the page's example has lines", pages.size() > 10);
        CHECKS.holds("the page's example is " + pages + ", the test's is " + own, pages.equals(own));
    }

    private static List<String> between(Path file, String first, String last) throws IOException {
        List<String> lines = new ArrayList<>();
        boolean isInside = false;
        for (String line : Files.readAllLines(file)) {
            String text = line.strip();
            if (text.equals(isInside ? last : first)) {
                isInside = !isInside;
            } else if (isInside) {
                lines.add(text);
            }
        }
        return lines;
    }

    private static void menus() {
        ShipStores ship = Ships.withKinds(4);
        CHECKS.equal("menus", Checks.serve(ship, MENUS), 2);
        int[] due = {0, 2, 1, 3, 1, ShipStores.NONE};
        for (int place = 0; place < due.length; place++) {
            CHECKS.equal("the first menu, " + place, ship.menu(0, place / 3, place % 3), due[place]);
        }
        CHECKS.equal("the first menu has two items", ship.menu(0, 2, 0), ShipStores.NONE);
        CHECKS.equal("the second menu is empty", ship.menu(1, 0, 0), ShipStores.NONE);
    }

    private static List<String> tests() throws IOException {
        try (Stream<Path> files = Files.list(Path.of("src/test/java"))) {
            return files.map(file -> file.getFileName().toString()).filter(name -> name.endsWith("Test.java"))
                .map(name -> name.substring(0, name.length() - ".java".length())).collect(Collectors.toList());
        }
    }
}
