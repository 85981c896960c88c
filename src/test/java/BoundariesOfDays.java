/** The boundary cases of the promise 13, and of what the terms tell about lots, menus and days. */
final class BoundariesOfDays {
    private static final Class<IllegalArgumentException> ARGUMENT = Sentences.ARGUMENT;

    private final Sentences doc;

    BoundariesOfDays(Sentences doc) {
        this.doc = doc;
    }

    void test() {
        doc.promise(13);
        pass();
        ages();
        spoiled();
        lifeAsItIs();
        menuOfTheDay();
        needs();
        eatenInOrder();
        substitutes();
        itemsInOrder();
        served();
        orderOfADay();
        hungry();
        accounts();
        isRefused();
    }

    private void pass() {
        doc.says("Lets days pass.", () -> {
            ShipStores ship = new ShipStores();
            ship.pass(1);
            doc.equal("a day", ship.count(0), 1);
            ship.pass(60);
            doc.equal("60 days", ship.count(0), 61);
        });
        doc.says("Undoable, as one call.", () -> {
            doc.undone("a day", Ships::inPort, ship -> ship.pass(1));
            doc.undone("60 days with food", BoundariesOfDays::withFood, ship -> ship.pass(60));
        });
        doc.says("`days`: 1 to 60", () -> {
            for (int days : new int[] {1, 2, 59, 60}) {
                ShipStores ship = Ships.selling(0, Ships.lives(200, 200, 200));
                ship.buy(0, 1, 0);
                ship.pass(days);
                doc.equal("its age after " + days, ship.lot(0, 3), 5 * days);
            }
        });
        doc.says("Returns how many rations spoiled in them.", () -> {
            ShipStores ship = Ships.selling(0, Ships.lives(1, 2, 60));
            doc.equal("without lots", ship.pass(60), 0);
            ship.undo();
            ship.buy(0, 5, 0);
            ship.buy(0, 7, 1);
            ship.buy(0, 1, 2);
            doc.equal("the first", ship.pass(1), 5);
            doc.equal("without those before", ship.pass(1), 7);
            doc.equal("none", ship.pass(60), 0);
            doc.equal("it keeps for 63 days, as ages are rounded down", ship.pass(1), 1);
            doc.equal("nothing is left", ship.pass(60), 0);
            for (int undone = 0; undone < 5; undone++) {
                ship.undo();
            }
            doc.equal("those of all days", ship.pass(60), 12);
        });
    }

    /** Five saved states. */
    private static ShipStores withFood() {
        ShipStores ship = Ships.selling(0, Ships.lives(3, 30, 40));
        ship.buy(0, 100, 1);
        return ship;
    }

    /** After as many days, in the store 0, of food that was bought fresh. */
    private static ShipStores aged(int life, int days) {
        ShipStores ship = Ships.selling(0, Ships.lives(life, 0, 0));
        ship.buy(0, 1, 0);
        for (int left = days; left > 0; left -= 60) {
            ship.pass(Math.min(left, 60));
        }
        return ship;
    }

    private void ages() {
        doc.says("On each day its age increases by 1000 / life.", () -> {
            for (int life = 2; life <= 200; life++) {
                doc.equal("a day with a life of " + life, aged(life, 1).lot(0, 3), 1000 / life);
            }
            doc.equal("199 days with a life of 200", aged(200, 199).lot(0, 3), 995);
        });
        doc.says("divisions are rounded down.", () -> {
            doc.equal("1000 / 3", aged(3, 1).lot(0, 3), 333);
            doc.equal("1000 / 3, each day", aged(3, 3).lot(0, 3), 999);
            doc.equal("1000 / 7, each day", aged(7, 7).lot(0, 3), 994);
            doc.equal("1000 / 199", aged(199, 1).lot(0, 3), 5);
        });
    }

    private void spoiled() {
        doc.says("an age: 0 when it is quite fresh, 1000 when it is spoiled.", () -> {
            doc.equal("quite fresh", aged(1, 0).lot(0, 3), 0);
            doc.equal("999", aged(3, 3).count(2), 1);
            doc.equal("1332", aged(3, 4).count(2), 0);
            doc.equal("1000 in a day", aged(1, 1).count(2), 0);
        });
        doc.says("those whose age is 1000 or more are spoiled and gone", () -> {
            doc.equal("900", aged(10, 9).count(2), 1);
            doc.equal("1000", aged(10, 10).count(2), 0);
            doc.equal("spoiled at 1000", aged(10, 10).kind(0, 5), 1);
            doc.equal("994", aged(7, 7).count(2), 1);
            doc.equal("1136", aged(7, 8).count(2), 0);
            doc.equal("spoiled at 1136", aged(7, 8).kind(0, 5), 1);
            doc.equal("995", aged(200, 199).count(2), 1);
            doc.equal("1000 after 200 days", aged(200, 200).count(2), 0);
        });
        doc.says("numbered from 0 in the order in which they came.", () -> {
            ShipStores ship = Ships.selling(0, Ships.lives(1, 2, 50));
            int[] stores = {0, 2, 0, 1, 2, 0};
            for (int lot = 0; lot < stores.length; lot++) {
                ship.buy(0, 1 + lot, stores[lot]);
            }
            doc.equal("three spoil", ship.pass(1), 1 + 3 + 6);
            doc.equal("three are left", ship.count(2), 3);
            doc.row("their amounts", lot -> ship.lot(lot, 2), 2, 4, 5);
            doc.row("their stores", lot -> ship.lot(lot, 1), 2, 1, 2);
            doc.row("their ages", lot -> ship.lot(lot, 3), 20, 500, 20);
        });
        doc.says("There are at most 30 lots", () -> {
            ShipStores ship = Ships.withLots(30);
            ship.move(29, 10, 0);
            ship.pass(9);
            doc.equal("all are there", ship.count(2), 30);
            doc.equal("the last one spoils", ship.pass(1), 10);
            doc.equal("29 are left", ship.count(2), 29);
            ship.pass(60);
            doc.equal("the others spoil all at once", ship.pass(30), 290);
        });
    }

    private void lifeAsItIs() {
        doc.says("The life with which a lot ages is the life in its store as it is then; if that is 0, it is 1.", () -> {
            ShipStores ship = Ships.selling(0, Ships.lives(10, 0, 20));
            ship.buy(0, 3, 2);
            ship.pass(1);
            ship.warm(2, 2);
            ship.pass(3);
            doc.equal("50, twice 100, and 50", ship.lot(0, 3), 300);
            ship.move(0, 1, 1);
            doc.equal("it spoils in a day", ship.pass(1), 1);
            ship.warm(1, 1);
            ship.move(0, 1, 1);
            doc.equal("not while it is warm", ship.pass(1), 0);
            doc.row("their ages", lot -> ship.lot(lot, 3), 400, 450);
            doc.equal("no longer warm", ship.pass(1), 1);
        });
        doc.says("if that is 0, it is 1.", () -> {
            ShipStores ship = Ships.selling(0, Ships.lives(0, 200, 200));
            ship.buy(0, 9, 1);
            ship.buy(0, 5, 2);
            ship.warm(1, 1);
            doc.equal("warm, with a life of 0 in the store 0", ship.pass(1), 9);
            ship.move(0, 5, 0);
            doc.equal("in the store 0", ship.pass(1), 5);
        });
    }

    private void menuOfTheDay() {
        doc.says("There are 1 to 10 menus, of at most 4 items each; on the day d the menu with the number d modulo the number"
            + " of menus is served.", () -> {
                for (int menus = 1; menus <= 10; menus++) {
                    ShipStores ship = Ships.selling(0, Ships.lives(9, 9, 9), Ships.lives(9, 9, 9));
                    Checks.serve(ship, "-;".repeat(menus - 1) + "1*1");
                    for (int day = 0; day < 25; day++) {
                        doc.equal("the day " + day + " of " + menus, ship.kind(1, 8), day / menus);
                        ship.pass(1);
                    }
                }
            });
        doc.says("on the day d the menu with the number d modulo the number of menus is served.", () -> {
            ShipStores ship = Ships.selling(0, Ships.lives(9, 9, 9));
            ship.pass(7);
            Checks.serve(ship, "0*1;0*2;0*3;0*4;0*5");
            ship.pass(1);
            doc.equal("the day 7 of 5: the menu 2", ship.kind(0, 8), 3);
            Checks.serve(ship, "0*1;0*2;0*3");
            ship.pass(1);
            doc.equal("the day 8 of 3: the menu 2", ship.kind(0, 8), 3 + 3);
            ship.pass(1);
            doc.equal("the day 9 of 3: the menu 0", ship.kind(0, 8), 3 + 3 + 1);
        });
        doc.says("of at most 4 items each", () -> {
            ShipStores ship = Ships.withKinds(8);
            ship.setCrew(1);
            Checks.serve(ship, "0*1,2*2,5*3,7*9;3*1,3*2,3*3,3*4");
            ship.pass(2);
            doc.row("short", kind -> ship.kind(kind, 8), 1, 0, 2, 10, 0, 3, 0, 9);
        });
        doc.says("At first there is one menu without items.", () -> {
            ShipStores ship = Ships.withLots(1);
            ship.pass(60);
            doc.equal("nothing was eaten", ship.kind(0, 4), 0);
            doc.equal("nobody was hungry", ship.count(8), 0);
        });
    }

    private void needs() {
        doc.says("An item needs the amount times the heads.", () -> {
            for (int heads : new int[] {1, 2, 100}) {
                for (int amount : new int[] {1, 2, 9}) {
                    ShipStores ship = Ships.selling(0, Ships.lives(9, 9, 9));
                    ship.setCrew(heads);
                    ship.buy(0, 1000, 0);
                    Checks.serve(ship, "0*" + amount);
                    ship.pass(1);
                    doc.equal("eaten", ship.kind(0, 4), heads * amount);
                    doc.equal("left", ship.lot(0, 2), 1000 - heads * amount);
                }
            }
        });
        doc.says("an amount (1 to 9 rations a head)", () -> {
            ShipStores ship = Ships.selling(0, Ships.lives(9, 9, 9));
            ship.setCrew(100);
            Checks.serve(ship, "0*9,0*9,0*9,0*9");
            ship.pass(60);
            doc.equal("short in 60 days", ship.kind(0, 8), 60 * 3600);
            doc.equal("hungry days", ship.count(8), 60);
        });
    }

    private void eatenInOrder() {
        doc.says("It is taken from the lots of its kind, those with fewer days left first, of several the lowest number", () -> {
            ShipStores ship = Ships.selling(0, Ships.lives(20, 30, 40), Ships.lives(20, 20, 20));
            int[] stores = {2, 1, 1, 0, 0};
            for (int store : stores) {
                ship.buy(0, 2, store);
            }
            ship.buy(1, 2, 0);
            Checks.serve(ship, "0*1");
            int[][] due = {{2, 2, 2, 1, 2, 2}, {2, 2, 2, 2, 2}, {2, 2, 2, 1, 2}, {2, 2, 2, 2}, {2, 1, 2, 2}, {2, 2, 2},
                {2, 1, 2}, {2, 2}, {1, 2}, {2}, {2}};
            for (int day = 0; day < due.length; day++) {
                ship.pass(1);
                doc.equal("lots after " + (day + 1), ship.count(2), due[day].length);
                doc.row("amounts after " + (day + 1), lot -> ship.lot(lot, 2), due[day]);
            }
            doc.equal("the other kind is left", ship.lot(0, 0), 1);
        });
        doc.says("of several the lowest number", () -> {
            ShipStores ship = Ships.selling(0, Ships.lives(10, 10, 200));
            ship.buy(0, 5, 1);
            ship.buy(0, 5, 0);
            Checks.serve(ship, "0*5,0*1");
            ship.pass(1);
            doc.equal("one lot is left", ship.count(2), 1);
            doc.row("the second one", what -> ship.lot(0, what), 0, 0, 4, 100);
        });
        doc.says("those with fewer days left first", () -> {
            ShipStores ship = Ships.selling(0, Ships.lives(10, 30, 10));
            ship.buy(0, 5, 0);
            ship.pass(4);
            ship.addPort(4, 0);
            ship.setPrice(1, 0, 1);
            ship.buy(0, 5, 0);
            ship.buy(0, 5, 1);
            ship.move(0, 5, 1);
            Checks.serve(ship, "0*1");
            ship.pass(1);
            doc.row("the fresh one with 10 days left, before an old one with 19", lot -> ship.lot(lot, 2), 5, 4, 5);
        });
        doc.says("There are at most 30 lots", () -> {
            for (int odd = 0; odd < 30; odd++) {
                ShipStores keeps = Ships.selling(0, Ships.lives(9, 99, 199));
                ShipStores spoils = Ships.selling(0, Ships.lives(9, 99, 199));
                for (int lot = 0; lot < 30; lot++) {
                    keeps.buy(0, 1, lot == odd ? 2 : 1);
                    spoils.buy(0, 1, lot == odd ? 0 : 1);
                }
                Checks.serve(keeps, "0*9,0*9,0*9,0*2");
                keeps.pass(1);
                doc.equal("29 are eaten", keeps.count(2), 1);
                doc.equal("the one that keeps longest is left", keeps.lot(0, 1), 2);
                Checks.serve(spoils, "0*1");
                spoils.pass(1);
                doc.equal("the one that spoils first is eaten", spoils.store(0, 2), 0);
                doc.equal("29 are left", spoils.count(2), 29);
            }
        });
    }

    private void substitutes() {
        String sentence = "what they do not have is taken from the lots of the substitute in the same way; what is lacking then"
            + " is short, and counts for the kind of the item.";
        doc.says(sentence, () -> {
            int[][] cases = {{8, 9, 7, 0, 0}, {7, 9, 7, 0, 0}, {6, 9, 6, 1, 0}, {1, 6, 1, 6, 0}, {1, 5, 1, 5, 1},
                {0, 7, 0, 7, 0}, {0, 6, 0, 6, 1}, {0, 0, 0, 0, 7}, {7, 0, 7, 0, 0}, {6, 0, 6, 0, 1}};
            for (int[] one : cases) {
                ShipStores ship = Ships.selling(0, Ships.lives(9, 9, 9), Ships.lives(9, 9, 9));
                for (int kind = 0; kind <= 1; kind++) {
                    if (one[kind] > 0) {
                        ship.buy(kind, one[kind], 0);
                    }
                }
                Checks.serve(ship, "0*7/1");
                ship.pass(1);
                String name = "with " + one[0] + " and " + one[1];
                doc.equal(name + ": eaten of it", ship.kind(0, 4), one[2]);
                doc.equal(name + ": eaten of the substitute", ship.kind(1, 4), one[3]);
                doc.equal(name + ": short of it", ship.kind(0, 8), one[4]);
                doc.equal(name + ": short of the substitute", ship.kind(1, 8), 0);
            }
        });
        doc.says("is taken from the lots of the substitute in the same way", () -> {
            ShipStores ship = Ships.selling(0, Ships.lives(9, 9, 9), Ships.lives(10, 20, 30));
            for (int store = 2; store >= 0; store--) {
                ship.buy(1, 2, store);
                ship.buy(1, 2, store);
            }
            Checks.serve(ship, "0*7/1");
            ship.pass(1);
            doc.equal("lots", ship.count(2), 3);
            doc.row("amounts", lot -> ship.lot(lot, 2), 2, 2, 1);
            doc.row("stores", lot -> ship.lot(lot, 1), 2, 2, 1);
        });
        doc.says("perhaps a substitute: another kind.", () -> {
            ShipStores ship = Ships.selling(0, Ships.lives(9, 9, 9), Ships.lives(9, 9, 9));
            ship.buy(1, 5, 0);
            Checks.serve(ship, "0*2");
            ship.pass(1);
            doc.equal("without one, no other kind is eaten", ship.kind(1, 4), 0);
            doc.equal("short", ship.kind(0, 8), 2);
        });
    }

    private void itemsInOrder() {
        doc.says("The items of a menu are served in their order", () -> {
            String[] menus = {"0*3/1,1*3", "1*3,0*3/1"};
            int[][] due = {{0, 2}, {2, 0}};
            for (int menu = 0; menu < 2; menu++) {
                ShipStores ship = Ships.selling(0, Ships.lives(9, 9, 9), Ships.lives(9, 9, 9));
                ship.buy(0, 1, 0);
                ship.buy(1, 3, 0);
                Checks.serve(ship, menus[menu]);
                ship.pass(1);
                doc.row("short with " + menus[menu], kind -> ship.kind(kind, 8), due[menu]);
            }
            ShipStores ship = Ships.selling(0, Ships.lives(9, 9, 9), Ships.lives(9, 9, 9));
            ship.buy(1, 8, 0);
            Checks.serve(ship, "1*1,0*2/1,1*4,0*9/1");
            ship.pass(1);
            doc.row("short at the fourth", kind -> ship.kind(kind, 8), 8, 0);
        });
        doc.says("the days left are those of the morning of this day.", () -> {
            ShipStores ship = Ships.selling(0, Ships.lives(10, 20, 40), Ships.lives(10, 20, 40));
            ship.buy(1, 1, 0);
            ship.buy(0, 5, 2);
            ship.buy(1, 1, 2);
            ship.buy(0, 5, 0);
            ship.buy(0, 5, 1);
            Checks.serve(ship, "1*2,0*6");
            ship.warm(2, 1);
            ship.pass(1);
            doc.equal("lots", ship.count(2), 2);
            doc.row("amounts", lot -> ship.lot(lot, 2), 5, 4);
            doc.row("stores", lot -> ship.lot(lot, 1), 2, 1);
        });
        doc.says("those of the morning of this day.", () -> {
            ShipStores ship = Ships.selling(0, Ships.lives(10, 12, 40));
            ship.buy(0, 5, 1);
            ship.buy(0, 5, 2);
            Checks.serve(ship, "0*1");
            ship.warm(2, 30);
            ship.pass(1);
            doc.row("warm for long, it is first", lot -> ship.lot(lot, 2), 5, 4);
            ship.warm(2, 0);
            ship.pass(1);
            doc.row("cold, it is last", lot -> ship.lot(lot, 2), 4, 4);
        });
    }

    private void served() {
        doc.says("the menu of the day is served (lots with nothing left are gone)", () -> {
            ShipStores ship = Ships.selling(0, Ships.lives(1, 5, 50));
            ship.buy(0, 4, 0);
            ship.buy(0, 7, 2);
            ship.buy(0, 2, 1);
            Checks.serve(ship, "0*4;0*2");
            doc.equal("eaten up, so nothing spoils", ship.pass(1), 0);
            doc.equal("two lots are left", ship.count(2), 2);
            doc.row("the others move up", lot -> ship.lot(lot, 2), 7, 2);
            doc.row("their ages", lot -> ship.lot(lot, 3), 20, 200);
            doc.equal("the next one", ship.pass(1), 0);
            doc.equal("a lot is left", ship.count(2), 1);
            doc.row("it moves not", what -> ship.lot(0, what), 0, 2, 7, 40);
        });
        doc.says("an amount above 0", () -> {
            ShipStores ship = Ships.selling(0, Ships.lives(9, 9, 9));
            for (int lot = 0; lot < 30; lot++) {
                ship.buy(0, 30, 0);
            }
            ship.setCrew(100);
            Checks.serve(ship, "0*9");
            ship.pass(1);
            doc.equal("all 30 are eaten up in a day", ship.count(2), 0);
            doc.equal("nothing is short", ship.count(8), 0);
            doc.equal("rations", ship.count(12), 0);
        });
    }

    private void orderOfADay() {
        doc.says("A day passes like this: the menu of the day is served (lots with nothing left are gone); then all lots age,"
            + " and those whose age is 1000 or more are spoiled and gone; then the warm days of each store decrease by 1, if"
            + " they are above 0; then the day increases by 1.", () -> {
                ShipStores ship = Ships.selling(0, Ships.lives(2, 8, 8));
                ship.buy(0, 5, 0);
                ship.buy(0, 5, 1);
                Checks.serve(ship, "0*3;0*2;-");
                ship.warm(1, 1);
                doc.equal("the first day", ship.pass(1), 0);
                doc.row("amounts", lot -> ship.lot(lot, 2), 2, 5);
                doc.row("ages", lot -> ship.lot(lot, 3), 500, 500);
                doc.equal("what would spoil is eaten before", ship.pass(1), 0);
                doc.row("the other lot", what -> ship.lot(0, what), 0, 1, 5, 625);
            });
        doc.says("then the warm days of each store decrease by 1, if they are above 0", () -> {
            ShipStores ship = Ships.selling(0, Ships.lives(2, 100, 100));
            ship.buy(0, 1, 1);
            ship.buy(0, 1, 2);
            ship.warm(1, 1);
            ship.warm(2, 2);
            ship.pass(1);
            doc.row("warm days", store -> ship.store(store, 3), 0, 0, 1);
            doc.row("both aged in the warm", lot -> ship.lot(lot, 3), 500, 500);
            ship.pass(1);
            doc.row("warm days", store -> ship.store(store, 3), 0, 0, 0);
            doc.equal("one aged in the cold", ship.lot(0, 3), 510);
            doc.equal("one was warm to the end", ship.count(2), 1);
            ship.pass(30);
            doc.row("not below 0", store -> ship.store(store, 3), 0, 0, 0);
        });
        doc.says("as long as this number is above 0, the store is warm.", () -> {
            ShipStores ship = Ships.selling(0, Ships.lives(100, 200, 200));
            ship.buy(0, 1, 1);
            ship.warm(1, 30);
            ship.pass(29);
            doc.equal("29 warm days", ship.lot(0, 3), 290);
            ship.pass(1);
            doc.equal("the thirtieth", ship.lot(0, 3), 300);
            ship.pass(1);
            doc.equal("the first cold one", ship.lot(0, 3), 305);
        });
        doc.says("then the day increases by 1.", () -> {
            ShipStores ship = Ships.selling(0, Ships.lives(9, 9, 9));
            Checks.serve(ship, "-;0*1");
            ship.pass(1);
            doc.equal("the menu of the day 0", ship.kind(0, 8), 0);
            ship.pass(1);
            doc.equal("the menu of the day 1", ship.kind(0, 8), 1);
            doc.equal("the day", ship.count(0), 2);
        });
    }

    private void hungry() {
        doc.says("A day is hungry if anything was short.", () -> {
            ShipStores ship = Ships.selling(0, Ships.lives(9, 9, 9), Ships.lives(9, 9, 9));
            ship.buy(0, 7, 0);
            Checks.serve(ship, "0*4");
            ship.pass(1);
            doc.equal("enough", ship.count(8), 0);
            ship.pass(1);
            doc.equal("a ration is short", ship.count(8), 1);
            Checks.serve(ship, "0*1,1*1,0*9/1,1*9/0");
            ship.pass(1);
            doc.equal("all items are short on one day", ship.count(8), 2);
            Checks.serve(ship, "-");
            ship.pass(60);
            doc.equal("nothing is needed", ship.count(8), 2);
        });
    }

    private void accounts() {
        doc.says("Of each kind the rations that were bought are those that were eaten (as items or as substitutes, counted for"
            + " the kind of the lot), that spoiled, that were thrown away, and that are in the lots.", () -> {
                ShipStores ship = Ships.selling(0, Ships.lives(2, 8, 8), Ships.lives(9, 9, 9));
                ship.buy(0, 10, 0);
                ship.buy(0, 10, 1);
                ship.buy(1, 10, 0);
                ship.discard(1, 1);
                Checks.serve(ship, "0*3;1*9,1*2/0;0*9,0*9,0*9");
                ship.pass(1);
                doc.row("0 on the day 1", what -> ship.kind(0, 3 + what), 20, 3, 0, 1, 16, 0, 2);
                ship.pass(1);
                doc.row("0 on the day 2", what -> ship.kind(0, 3 + what), 20, 4, 6, 1, 9, 0, 1);
                doc.row("1 on the day 2", what -> ship.kind(1, 3 + what), 10, 10, 0, 0, 0, 0, 0);
                ship.pass(1);
                doc.row("0 on the day 3", what -> ship.kind(0, 3 + what), 20, 13, 6, 1, 0, 18, 0);
            });
    }

    private void isRefused() {
        doc.says("Throws `IllegalArgumentException` if days is out of range", () -> {
            for (int days : Sentences.outside(1, 60)) {
                doc.refused("pass(" + days + ")", Ships::inPort, ARGUMENT, ship -> ship.pass(days));
            }
            doc.refused("pass(-1)", Ships::inPort, ARGUMENT, ship -> ship.pass(-1));
        });
        doc.changesNothing(() -> {
            doc.refused("no days", Ships::full, ARGUMENT, ship -> ship.pass(0));
            doc.refused("too many", Ships::full, ARGUMENT, ship -> ship.pass(61));
        });
    }
}
