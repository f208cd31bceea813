/** The edges of "Terms" but for its texts and errors, each with the sentence that names it. */
public final class TermsEdgesTest {
    private static final int NONE = BatchWarehouse.NONE;

    public static void main(String[] args) throws Exception {
        Edges.section("What it is");
        Edges.plain("A warehouse inventory with batches and expiry dates.");
        calls();
        Edges.section("Terms");
        Edges.plain("It issues stock by the rule", "Ahead of the calls");
        products();
        batches();
        issueOrder();
        reservations();
        writeOffs();
        accounts();
        demand();
        undo();
        TextsEdges.test();
        Edges.end("TermsEdgesTest");
    }

    private static void calls() {
        Edges.edge("An object is used for at most 512 calls after it has been made", () -> {
            BatchWarehouse x = Scene.fresh();
            for (int call = 1; call <= 511; call++) {
                if (call % 2 == 1) {
                    x.takeStock(0, call);
                } else {
                    x.undo();
                }
            }
            Check.due("the 512th", 511, () -> x.quantity(0));
        });
    }

    private static void products() {
        Edges.plain("Products and batches.");
        Edges.edge("There are 1 to 8 products, numbered from 0, each with a name of 1 to 6 letters a to z and a minimum stock (0 to 999 units);"
            + " names are distinct.", () -> {
                BatchWarehouse x = Check.loaded("warehouse;product a 0;product z 999;product abcdef 1;product abcdeg 1;product ab 1;"
                    + "product ba 1;product aa 1;product zzzzzz 1;");
                Check.due("the first name", "a", () -> Check.name(x, 0));
                Check.due("the least minimum", 0, () -> x.minimumStock(0));
                Check.due("the second name", "z", () -> Check.name(x, 1));
                Check.due("the greatest minimum", 999, () -> x.minimumStock(1));
                Check.due("six letters", "abcdef", () -> Check.name(x, 2));
                Check.due("six other letters", "abcdeg", () -> Check.name(x, 3));
                Check.due("the eighth name", "zzzzzz", () -> Check.name(x, 7));
                Check.outside("no ninth", () -> x.minimumStock(8));
                TextsEdges.setup("warehouse;?", 1);
                TextsEdges.setup("warehouse;" + TextsEdges.products(8) + "?product i 1;", 4);
                TextsEdges.setup("warehouse;product ?1;", 1);
                TextsEdges.setup("warehouse;product ?abcdefg 1;", 3);
                TextsEdges.setup("warehouse;product ?A 1;", 1);
                TextsEdges.setup("warehouse;product a ?1000;", 2);
                TextsEdges.setup("warehouse;product a 1;product ?a 1;", 3);
                TextsEdges.setup("warehouse;" + TextsEdges.products(7) + "product ?g 1;", 3);
            });
    }

    private static void batches() {
        Edges.edge("There are at most 20 batches, numbered from 0 in the order in which they were received.", () -> {
            BatchWarehouse x = Check.loaded(Scene.textOfBatches(18));
            Check.due("the 19th, with an earlier expiry day", 18, () -> x.receive(0, 1, 0, 1));
            Check.due("the 20th by a script", 1, () -> Check.script(x, "receive z 2 0 1;receive z 3 0 1;writeoff;"));
            Check.impossible("the 21st", () -> x.receive(0, 4, 0, 1));
            Check.due("the first of the setup", 1, () -> x.expiryDay(0));
            Check.due("the last of the setup", 18, () -> x.expiryDay(17));
            Check.due("the 19th", 1, () -> x.quantity(18));
            Check.due("the 20th", 2, () -> x.quantity(19));
            Check.due("20 batches", 20, x::batchCount);
        });
        Edges.edge("A batch belongs to a product and has an on-hand quantity, an expiry day (0 to 9999) and a unit cost (1 to 999).", () -> {
            BatchWarehouse x = Check.loaded("warehouse;product a 1;product b 1;batch b 1 0 1;batch a 999 9999 999;");
            Check.due("product", 1, () -> x.productOf(0));
            Check.due("the least quantity", 1, () -> x.quantity(0));
            Check.due("the least expiry day", 0, () -> x.expiryDay(0));
            Check.due("the least cost", 1, () -> x.unitCost(0));
            Check.due("the greatest quantity", 999, () -> x.quantity(1));
            Check.due("the greatest expiry day", 9999, () -> x.expiryDay(1));
            Check.due("the greatest cost", 999, () -> x.unitCost(1));
            x.takeStock(1, 0);
            Check.due("no units", 0, () -> x.quantity(1));
            Check.unfit("expiry day -1", () -> x.receive(0, 1, -1, 1));
            Check.unfit("expiry day 10000", () -> x.receive(0, 1, 10000, 1));
            Check.unfit("cost 0", () -> x.receive(0, 1, 1, 0));
            Check.unfit("cost 1000", () -> x.receive(0, 1, 1, 1000));
            TextsEdges.setup("warehouse;product a 1;batch a 1 ?10000 1;", 1);
            TextsEdges.setup("warehouse;product a 1;batch a 1 1 ?0;", 2);
            TextsEdges.setup("warehouse;product a 1;batch a 1 1 ?1000;", 2);
        });
        Edges.edge("A batch stays in the list when its on-hand quantity has become 0.", () -> {
            BatchWarehouse x = Check.loaded("warehouse;product z 1;batch z 1 1 5;batch z 1 2 6;batch z 1 3 7;batch z 1 0 8;");
            x.reserve(0, 1, 1);
            x.ship(0);
            x.issue(0, 1);
            x.takeStock(1, 0);
            x.passDays(4);
            x.writeOffExpired();
            Check.due("four batches", 4, x::batchCount);
            for (int i = 0; i < 4; i++) {
                int batch = i;
                Check.due("quantity", 0, () -> x.quantity(batch));
                Check.due("cost", batch + 5, () -> x.unitCost(batch));
            }
            Check.due("the next number", 4, () -> x.receive(0, 1, 9, 1));
            Check.due("it can have units again", 7, () -> x.takeStock(0, 7));
        });
        Edges.edge("The current day is 0 at first and at most 9999.", () -> {
            BatchWarehouse x = Scene.fresh();
            Check.due("at first", 0, x::day);
            for (int i = 0; i < 10; i++) {
                x.passDays(999);
            }
            Check.impossible("day 10000", () -> x.passDays(10));
            Check.due("not by a script", 0, () -> Check.script(x, "days 10;"));
            Check.due("day 9999", 1, () -> Check.script(x, "days 9;days 1;"));
            Check.due("at most", 9999, x::day);
            Check.put(x, "warehouse;product z 1;");
            x.load();
            Check.due("at first again", 0, x::day);
        });
        Edges.edge("A batch is expired if its expiry day is less than the current day.", () -> {
            BatchWarehouse x = Check.loaded("warehouse;product z 1;batch z 1 0 1;batch z 1 1 1;");
            Check.due("day 0 on day 0", false, () -> x.isExpired(0));
            x.passDays(1);
            Check.due("day 0 on day 1", true, () -> x.isExpired(0));
            Check.due("day 1 on day 1", false, () -> x.isExpired(1));
            x.undo();
            Check.due("day 0 on day 0 again", false, () -> x.isExpired(0));
        });
        Edges.edge("The reserved quantity of a batch is the number of its units that are allocated to open reservations; it never exceeds the"
            + " on-hand quantity.", () -> {
                BatchWarehouse x = Check.loaded("warehouse;product z 1;batch z 9 9 1;");
                x.reserve(0, 4, 0);
                x.reserve(0, 5, 9);
                Check.due("all units, of two reservations", 9, () -> x.reservedOf(0));
                Check.impossible("a third reservation", () -> x.reserve(0, 1, 0));
                Check.impossible("an issue", () -> x.issue(0, 1));
                Check.impossible("a stock take", () -> x.takeStock(0, 8));
                x.cancel(0);
                Check.due("the open one", 5, () -> x.reservedOf(0));
                Check.impossible("too many are issued", () -> x.issue(0, 5));
                x.issue(0, 4);
                Check.due("just as many as are on hand", 5, () -> x.quantity(0));
                x.passDays(10);
                x.writeOffExpired();
                Check.due("written off", 0, () -> x.reservedOf(0));
                Check.due("none on hand", 0, () -> x.quantity(0));
            });
        Edges.edge("The free quantity of a batch is its on-hand quantity minus its reserved quantity.", () -> {
            for (int units = 1; units <= 9; units++) {
                BatchWarehouse x = Check.loaded("warehouse;product z 1;batch z 9 9 1;");
                x.reserve(0, units, 0);
                Check.due(units + " are reserved", 9 - units, () -> x.availableOn(0, 9));
                x.takeStock(0, units);
                Check.due("no more are on hand", 0, () -> x.availableOn(0, 9));
                x.takeStock(0, 999);
                Check.due("999 are on hand", 999 - units, () -> x.availableOn(0, 9));
            }
        });
    }

    private static void issueOrder() {
        Edges.plain("First expired, first out.");
        Edges.edge("The issue order of a product for a day consists of its batches with a free quantity above 0 whose expiry day is at least"
            + " this day.", () -> {
                BatchWarehouse x = Check.loaded("warehouse;product z 1;product y 1;batch z 2 5 1;batch y 1 6 1;batch z 1 6 1;");
                x.reserve(0, 1, 0);
                Check.due("one unit is free", 0, () -> x.issueOrder(0, 0));
                x.reserve(0, 1, 0);
                Check.due("none is free", 2, () -> x.issueOrder(0, 0));
                Check.due("only this product", NONE, () -> x.issueOrder(0, 1));
                x.cancel(1);
                x.passDays(5);
                Check.due("at least this day", 0, () -> x.issueOrder(0, 0));
                x.passDays(1);
                Check.due("not a day less", 2, () -> x.issueOrder(0, 0));
                Check.due("for day 5", 2, () -> x.availableOn(0, 5));
                Check.due("for day 6", 1, () -> x.availableOn(0, 6));
                Check.due("for day 7", 0, () -> x.availableOn(0, 7));
            });
        Edges.edge("They are sorted by ascending expiry day; batches with equal expiry days are sorted by ascending number.", () -> {
            BatchWarehouse x = Check.loaded("warehouse;product z 1;batch z 1 9999 1;batch z 1 10 1;batch z 1 9 1;batch z 1 10 1;batch z 1 0 1;"
                + "batch z 1 9999 1;batch z 1 0 1;");
            int[] due = {4, 6, 2, 1, 3, 0, 5, NONE};
            for (int i = 0; i < due.length; i++) {
                int position = i;
                Check.due("position " + i, due[i], () -> x.issueOrder(0, position));
            }
        });
        Edges.edge("To take a quantity in the issue order means to take as many free units as possible from the first batch, then from the second"
            + " batch, and so on, until the quantity is reached.", () -> {
                for (int units = 1; units <= 12; units++) {
                    int quantity = units;
                    // Batches 2, 0 and 1 in this order, of which 4, 3 and 5 units are free.
                    BatchWarehouse x = Check.loaded("warehouse;product z 1;batch z 3 5 1;batch z 5 6 1;batch z 6 4 1;");
                    x.reserve(0, 2, 0);
                    x.reserve(0, quantity, 0);
                    int[] taken = {Math.max(0, Math.min(3, quantity - 4)), Math.max(0, quantity - 7), Math.min(4, quantity)};
                    x.cancel(0);
                    for (int b = 0; b < 3; b++) {
                        int batch = b;
                        Check.due("reserved of batch " + b + " of " + quantity, taken[b], () -> x.allocation(1, batch));
                    }
                }
            });
    }

    private static void reservations() {
        Edges.plain("Reservations.");
        Edges.edge("There are at most 10 reservations, numbered from 0 in the order in which they were made.", () -> {
            BatchWarehouse x = Scene.fresh();
            for (int i = 0; i < 9; i++) {
                int number = i;
                Check.due("reservation " + i, number, () -> x.reserve(1, number + 1, 9 - number));
            }
            Check.due("the tenth by a script", 1, () -> Check.script(x, "reserve milk 7 0;reserve milk 8 0;days 1;"));
            Check.impossible("an eleventh", () -> x.reserve(0, 1, 0));
            Check.due("the first", 1, () -> x.reservedQuantity(0));
            Check.due("the ninth", 9, () -> x.reservedQuantity(8));
            Check.due("the tenth", 7, () -> x.reservedQuantity(9));
            x.cancel(9);
            Check.impossible("a cancelled one keeps its place", () -> x.reserve(0, 1, 0));
            x.ship(0);
            Check.impossible("a shipped one too", () -> x.reserve(0, 1, 0));
        });
        Edges.edge("A reservation has a product, a quantity, a shipping day, allocations to batches, and a state: open, shipped or cancelled.",
            () -> {
                BatchWarehouse x = Scene.fresh();
                x.reserve(0, 1, 0);
                x.reserve(0, 1, 0);
                x.ship(0);
                x.cancel(1);
                for (int i = 0; i < 2; i++) {
                    int closed = i;
                    Check.due("not open", false, () -> x.isOpen(closed));
                    Check.impossible("not shipped again", () -> x.ship(closed));
                    Check.impossible("not cancelled again", () -> x.cancel(closed));
                    Check.impossible("not refilled", () -> x.refill(closed));
                    Check.due("its product", 0, () -> x.reservedProduct(closed));
                    Check.due("its quantity", 1, () -> x.reservedQuantity(closed));
                    Check.due("its allocation", 1, () -> x.allocation(closed, 1));
                }
            });
        Edges.edge("Its missing quantity is its quantity minus the sum of its allocations while it is open, and 0 otherwise.", () -> {
            BatchWarehouse x = Check.loaded("warehouse;product z 1;batch z 4 1 1;batch z 5 2 1;");
            x.reserve(0, 9, 1);
            Check.due("nothing", 0, () -> x.missing(0));
            x.passDays(2);
            x.writeOffExpired();
            Check.due("a part", 4, () -> x.missing(0));
            x.passDays(1);
            x.writeOffExpired();
            Check.due("all", 9, () -> x.missing(0));
            x.cancel(0);
            Check.due("0 when it is not open", 0, () -> x.missing(0));
        });
        Edges.edge("When a reservation is made, its quantity is taken in the issue order for its shipping day and allocated.", () -> {
            BatchWarehouse x = Check.loaded("warehouse;product z 1;batch z 4 7 1;batch z 4 5 1;batch z 4 6 1;");
            x.reserve(0, 1, 5);
            Check.due("shipping day 5", 1, () -> x.allocation(0, 1));
            x.reserve(0, 5, 6);
            Check.due("shipping day 6: not this one", 0, () -> x.allocation(1, 1));
            Check.due("shipping day 6: first", 4, () -> x.allocation(1, 2));
            Check.due("shipping day 6: then", 1, () -> x.allocation(1, 0));
            x.reserve(0, 3, 7);
            Check.due("shipping day 7", 3, () -> x.allocation(2, 0));
            Check.impossible("none is left for day 7", () -> x.reserve(0, 1, 7));
            Check.impossible("none is left for day 6", () -> x.reserve(0, 1, 6));
            x.reserve(0, 3, 0);
            Check.due("shipping day 0", 3, () -> x.allocation(3, 1));
            Check.impossible("none is left for day 0", () -> x.reserve(0, 1, 0));
        });
        Edges.edge("The allocations remain until the reservation is shipped or cancelled, or a batch is written off.", () -> {
            BatchWarehouse x = Check.loaded("warehouse;product z 1;batch z 4 5 1;batch z 4 6 1;");
            x.reserve(0, 5, 1);
            x.receive(0, 9, 3, 1);
            x.passDays(2);
            x.issue(0, 12);
            x.takeStock(0, 4);
            x.takeStock(1, 1);
            x.takeStock(1, 9);
            x.refill(0);
            x.passDays(9);
            Check.due("reserved though both are expired", 5, () -> x.reserved(0));
            Check.due("the first", 4, () -> x.allocation(0, 0));
            Check.due("the second", 1, () -> x.allocation(0, 1));
            x.writeOffExpired();
            Check.due("written off", 0, () -> x.allocation(0, 0));
            Check.due("written off", 0, () -> x.allocation(0, 1));
            x.undo();
            Check.due("undone", 4, () -> x.allocation(0, 0));
        });
    }

    private static void writeOffs() {
        Edges.plain("Write-offs.");
        Edges.edge("Writing off a batch sets its on-hand quantity to 0 and deletes all allocations of open reservations to it.", () -> {
            BatchWarehouse x = Check.loaded("warehouse;product z 1;batch z 9 5 1;batch z 9 9 1;");
            x.reserve(0, 2, 0);
            x.reserve(0, 3, 0);
            x.reserve(0, 1, 0);
            x.reserve(0, 1, 0);
            x.reserve(0, 3, 0);
            x.ship(2);
            x.cancel(3);
            x.passDays(6);
            x.writeOffExpired();
            Check.due("on hand", 0, () -> x.quantity(0));
            Check.due("reserved", 0, () -> x.reservedOf(0));
            int[] allocations = {0, 0, 1, 1, 0};
            for (int i = 0; i < 5; i++) {
                int reservation = i;
                Check.due("allocation of " + i, allocations[i], () -> x.allocation(reservation, 0));
            }
            Check.due("not to another batch", 1, () -> x.allocation(4, 1));
            Check.due("nor that batch", 9, () -> x.quantity(1));
        });
        Edges.edge("The open reservations that lose units keep their quantities; these units are missing.", () -> {
            BatchWarehouse x = Check.loaded("warehouse;product z 1;batch z 9 5 1;batch z 9 9 1;");
            x.reserve(0, 8, 0);
            x.reserve(0, 2, 0);
            x.reserve(0, 2, 0);
            x.passDays(6);
            x.writeOffExpired();
            int[] missing = {8, 1, 0};
            int[] quantities = {8, 2, 2};
            for (int i = 0; i < 3; i++) {
                int reservation = i;
                Check.due("missing of " + i, missing[i], () -> x.missing(reservation));
                Check.due("quantity of " + i, quantities[i], () -> x.reservedQuantity(reservation));
                Check.due("open", true, () -> x.isOpen(reservation));
            }
        });
    }

    private static void accounts() {
        Edges.plain("Accounts.");
        Edges.edge("The accounts of a product count units since the latest setup: received units (including the batches of the setup text), issued"
            + " units (by issue()), shipped units, written-off units, and the adjustment, which is the sum of the differences of stock takes (it"
            + " can be negative).", () -> {
                BatchWarehouse x = Scene.busy();
                x.truncate(0);
                Check.put(x, "warehouse;product a 1;product b 1;batch b 9 1 1;");
                x.load();
                Check.due("no batch in the setup", 0, () -> x.receivedUnits(0));
                Check.due("a batch in the setup", 9, () -> x.receivedUnits(1));
                Check.due("delivered", 0, () -> x.deliveredUnits(0) + x.deliveredUnits(1));
                Check.due("written off", 0, () -> x.writtenOffUnits(0) + x.writtenOffUnits(1));
                Check.due("adjustment", 0, () -> x.adjustment(0) + x.adjustment(1));
                x.takeStock(0, 0);
                Check.due("a negative one", -9, () -> x.adjustment(1));
                Check.put(x, "warehouse;");
                Check.outcome(x::load);
                Check.due("a refused setup is none", -9, () -> x.adjustment(1));
            });
        Edges.edge("The on-hand quantity of a product always equals its received units minus its issued, shipped and written-off units plus its"
            + " adjustment.", () -> {
                Scene.Maker[] scenes = {Scene::bare, Scene::fresh, Scene::one, Scene::eight, Scene::twentyBatches, Scene::plenty,
                    Scene::tenReservations, Scene::lastDay, Scene::busy};
                for (Scene.Maker scene : scenes) {
                    BatchWarehouse x = scene.make();
                    Check.outcome(() -> x.takeStock(0, 500));
                    Check.outcome(() -> x.issue(0, 1));
                    Check.outcome(() -> x.ship(0));
                    x.writeOffExpired();
                    for (int i = 0; i < x.productCount(); i++) {
                        int p = i;
                        int due = x.receivedUnits(p) - x.deliveredUnits(p) - x.writtenOffUnits(p) + x.adjustment(p);
                        Check.due("on hand", due, () -> x.onHand(p));
                    }
                }
            });
    }

    private static void demand() {
        Edges.plain("Demand.");
        Edges.edge("The methods about a daily demand simulate a number of days, starting with the current day, on a copy of the warehouse.", () -> {
            BatchWarehouse x = Check.loaded("warehouse;product z 1;batch z 6 5 1;");
            Check.due("6 days from day 0", 1, () -> x.demandWithoutWaste(0));
            x.passDays(5);
            Check.due("1 day from day 5", 6, () -> x.demandWithoutWaste(0));
            Check.due("the current day is the first", 0, () -> x.wasteWithDemand(0, 6, 365));
            Check.due("it is met then", 1, () -> x.daysUntilShortage(0, 6));
            Check.sameSight("on a copy", Sight.ofAll(Scene::busy), Sight.ofAll(() -> {
                BatchWarehouse y = Scene.busy();
                y.daysUntilShortage(0, 1);
                y.wasteWithDemand(0, 1, 365);
                y.demandWithoutWaste(0);
                return y;
            }));
        });
        Edges.edge("On each day, the whole stock that is expired is written off first; then the daily demand is taken in the issue order of the"
            + " product for this day, as far as possible, and issued; then the next day begins.", () -> {
                BatchWarehouse x = Check.loaded("warehouse;product z 1;batch z 5 0 1;batch z 5 1 1;");
                Check.due("as far as possible", 0, () -> x.wasteWithDemand(0, 11, 365));
                Check.due("not before the day after", 0, () -> x.wasteWithDemand(0, 0, 1));
                Check.due("the first day after", 5, () -> x.wasteWithDemand(0, 0, 2));
                Check.due("the second day after", 10, () -> x.wasteWithDemand(0, 0, 3));
                Check.due("one unit of each", 8, () -> x.wasteWithDemand(0, 1, 365));
                x.passDays(1);
                Check.due("first on the current day", 5, () -> x.wasteWithDemand(0, 999, 1));
                Check.due("so that it meets nothing", 0, () -> x.daysUntilShortage(0, 6));
                Check.due("but the other does", 1, () -> x.daysUntilShortage(0, 5));
            });
        Edges.edge("Reservations are neither shipped nor cancelled.", () -> {
            BatchWarehouse x = Check.loaded("warehouse;product z 1;batch z 9 3 1;");
            x.reserve(0, 9, 0);
            Check.due("the units stay reserved", 0, () -> x.daysUntilShortage(0, 1));
            Check.due("until they are written off", 9, () -> x.wasteWithDemand(0, 9, 5));
            Check.due("no day before", 0, () -> x.wasteWithDemand(0, 9, 4));
            Check.due("no demand takes them", NONE, () -> x.demandWithoutWaste(0));
        });
        Edges.edge("The simulated days may go beyond day 9999.", () -> {
            BatchWarehouse x = Scene.lastDay();
            x.writeOffExpired();
            Check.due("good on day 9999", 0, () -> x.wasteWithDemand(0, 0, 1));
            Check.due("written off on day 10000", 9, () -> x.wasteWithDemand(0, 0, 2));
            Check.due("and not again until day 10363", 9, () -> x.wasteWithDemand(0, 0, 365));
            Check.due("nothing on day 10000", 1, () -> x.daysUntilShortage(0, 1));
            Check.due("all on day 9999", 9, () -> x.demandWithoutWaste(0));
        });
    }

    /** The state and the texts of the busy warehouse after a script that changes all it can, and an undo. */
    private static String withUndoneScript() {
        Scene.Maker undone = () -> {
            BatchWarehouse x = Scene.busy();
            x.truncate(0);
            Check.put(x, "cancel 0;refill 3;receive milk 9 99 9;count 3 7;issue rice 7;reserve milk 9 9;ship 4;days 90;writeoff;");
            Check.due("commands", 9, x::runScript);
            x.undo();
            Check.put(x, "ship");
            Check.outcome(x::runScript);
            Check.put(x, "rice");
            return x;
        };
        return Sight.ofState(undone) + Sight.ofTexts(undone);
    }

    private static void undo() {
        Edges.plain("Undo.");
        Edges.edge("The methods in the section \"changes\" are changes if they do not throw an exception, even if they change nothing.", () -> {
            Edges.CallWith[] withoutEffect = {(x, v) -> x.refill(0), (x, v) -> x.takeStock(0, 30), (x, v) -> x.writeOffExpired(),
                (x, v) -> x.runScript()};
            for (Edges.CallWith call : withoutEffect) {
                BatchWarehouse x = Scene.fresh();
                x.reserve(0, 1, 0);
                call.on(x, 0);
                Check.due("without effect", 1, x::undo);
                Check.due("the reservation", 0, x::undo);
            }
            Edges.CallWith[] refused = {(x, v) -> x.receive(0, 0, 0, 0), (x, v) -> x.issue(0, 51), (x, v) -> x.reserve(0, 51, 0), (x, v) -> x.ship(1),
                (x, v) -> x.cancel(1), (x, v) -> x.refill(1), (x, v) -> x.takeStock(0, -1), (x, v) -> x.passDays(0), (x, v) -> x.undo(),
                (x, v) -> x.restore(0), (x, v) -> x.load()};
            for (Edges.CallWith call : refused) {
                BatchWarehouse x = Scene.fresh();
                x.reserve(0, 1, 0);
                x.reserve(0, 1, 0);
                x.undo();
                Check.outcome(() -> call.on(x, 0));
                Check.outcome(() -> call.on(x, 0));
                if (call != refused[8]) {
                    Check.due("a refused call is no change", 0, x::undo);
                }
            }
        });
        Edges.edge("The latest 6 changes can be undone.", () -> {
            BatchWarehouse x = Scene.fresh();
            for (int units = 1; units <= 7; units++) {
                x.issue(1, units);
            }
            for (int left = 5; left >= 0; left--) {
                Check.due("undo", left, x::undo);
            }
            Check.due("the first is not undone", 99, () -> x.onHand(1));
            Check.impossible("a seventh undo", x::undo);
            Check.due("still", 99, () -> x.onHand(1));
        });
        Edges.edge("Undoing, saving and restoring affect the whole state, including the accounts, except the input buffer, the error code, the error"
            + " position, the output text and the saved states.", () -> {
                Check.sameSight("undone", Sight.ofState(Scene::busy) + Sight.ofTexts(Scene::busy), withUndoneScript());
                BatchWarehouse x = Scene.busy();
                x.restore(0);
                Check.due("the error code", 1, x::errorCode);
                Check.due("the error position", 4, x::errorPosition);
                Check.due("the input buffer", 1, x::findProduct);
                Check.due("the output text", (int) '7', () -> x.outputByte(5));
                Check.due("the other saved state", 4, () -> x.restore(1));
                Check.due("the same saved state", 0, () -> x.restore(0));
                Check.due("the accounts", 0, () -> x.writtenOffUnits(0));
                x.restore(1);
                Check.due("the accounts of the other", 20, () -> x.writtenOffUnits(0));
            });
        Edges.edge("A method that throws an exception changes nothing unless its description says otherwise.", () -> {
            Edges.impossible(() -> {
                BatchWarehouse x = Scene.busy();
                Check.put(x, " ".repeat(580));
                return x;
            }, (x, v) -> x.append(v, v, v, v, v), 0);
            Edges.outside(Scene::busy, (x, v) -> x.writeBatches(v), -1, 3);
            Edges.impossible(Scene::busy, (x, v) -> x.issue(0, v), 8, 9999);
            Edges.impossible(Scene::busy, (x, v) -> x.reserve(0, v, 9), 8, 9999);
            Edges.impossible(Scene::busy, (x, v) -> x.ship(v), 0, 1, 2, 3);
            Edges.impossible(Scene::busy, (x, v) -> x.cancel(v), 1, 2);
            Edges.impossible(Scene::busy, (x, v) -> x.refill(v), 1, 2);
            Edges.impossible(Scene::busy, (x, v) -> x.takeStock(0, v), 0, 5);
        });
        Edges.edge("If several exceptions apply, the one that is listed first is thrown.", () -> {
            Edges.outside(Scene::twentyBatches, (x, v) -> x.receive(v, 0, -1, 0), -1, 1);
            Edges.unfit(Scene::twentyBatches, (x, v) -> x.receive(0, v, 1, 1), 0, 1000);
            Edges.outside(Scene::bare, (x, v) -> x.issue(v, 0), -1, 1);
            Edges.unfit(Scene::bare, (x, v) -> x.issue(0, v), 0, 10000);
            Edges.outside(Scene::tenReservations, (x, v) -> x.reserve(v, 0, -1), -1, 3);
            Edges.unfit(Scene::tenReservations, (x, v) -> x.reserve(0, v, 0), 0, 10000);
            Edges.outside(Scene::busy, (x, v) -> x.takeStock(v, -1), -1, 5);
            Edges.unfit(Scene::busy, (x, v) -> x.takeStock(0, v), -1, 1000);
            Edges.unfit(Scene::lastDay, (x, v) -> x.passDays(v), 0, 1000);
            Edges.outside(Scene::bare, (x, v) -> x.costOfIssue(v, 0), -1, 1);
            Edges.outside(Scene::bare, (x, v) -> x.availableOn(v, v), -1, 10000);
            Edges.outside(Scene::bare, (x, v) -> x.expiringWithin(v, v), -1, 1000);
            Edges.outside(Scene::bare, (x, v) -> x.daysUntilShortage(v, v), -1, 1000);
            Edges.outside(Scene::bare, (x, v) -> x.wasteWithDemand(v, v, v), -1, 1000);
            Edges.outside(Scene::fresh, (x, v) -> x.restore(v), -1, 2);
        });
        Edges.edge("The constants: `NONE = -1`: Returned where there is no product, no batch, no cost or no day.", () -> {
            Check.due("its value", -1, () -> BatchWarehouse.NONE);
            Check.due("no batch", -1, () -> Scene.bare().issueOrder(0, 0));
            Check.due("no cost", -1, () -> Scene.bare().costOfIssue(0, 1));
            Check.due("no position", -1, () -> Scene.bare().errorPosition());
            Check.due("no demand", -1, () -> {
                BatchWarehouse x = Scene.one();
                x.passDays(10);
                return x.demandWithoutWaste(0);
            });
        });
    }
}
