/** The edges of promises 45 to 47, each with the sentence that names it. */
public final class ForecastsEdgesTest {
    public static void main(String[] args) throws Exception {
        daysUntilShortage();
        wasteWithDemand();
        demandWithoutWaste();
        Edges.end("ForecastsEdgesTest");
    }

    /** One product with these batches, told as "quantity expiry". */
    private static BatchWarehouse with(String... batches) {
        StringBuilder setup = new StringBuilder("warehouse;product z 1;product y 1;batch y 500 1 1;");
        for (String batch : batches) {
            setup.append("batch z ").append(batch).append(" 1;");
        }
        return Check.loaded(setup.toString());
    }

    private static void shortage(int due, int demand, String... batches) {
        Check.due("of " + String.join(", ", batches) + " with " + demand, due, () -> with(batches).daysUntilShortage(0, demand));
    }

    private static void waste(int due, int demand, int days, String... batches) {
        Check.due("of " + String.join(", ", batches) + " with " + demand + " in " + days, due,
            () -> with(batches).wasteWithDemand(0, demand, days));
    }

    private static void least(int due, String... batches) {
        Check.due("of " + String.join(", ", batches), due, () -> with(batches).demandWithoutWaste(0));
    }

    private static void changesNothing(Edges.CallWith call) {
        Check.sameSight("nothing changes", Sight.ofAll(Scene::busy), Sight.ofAll(() -> {
            BatchWarehouse x = Scene.busy();
            call.on(x, 0);
            call.on(x, 1);
            return x;
        }));
    }

    private static void daysUntilShortage() throws Exception {
        Edges.section("Promise 45");
        Edges.product((x, v) -> x.daysUntilShortage(v, 1), (x, v) -> x.daysUntilShortage(v, 0), (x, v) -> x.daysUntilShortage(v, 1000));
        Edges.edge("`demand`: 1 to 999 units a day", () -> {
            Edges.range(Scene::busy, (x, v) -> x.daysUntilShortage(0, v), 1, 999);
            shortage(5, 1, "5 99");
            shortage(1, 999, "999 99");
            shortage(0, 999, "998 99");
            shortage(19, 999, "999 99", "999 99", "999 99", "999 99", "999 99", "999 99", "999 99", "999 99", "999 99", "999 99", "999 99",
                "999 99", "999 99", "999 99", "999 99", "999 99", "999 99", "999 99", "999 99");
        });
        Edges.edge("Returns the number of days on which the demand is met completely before the first day on which it is not; 365 if it is met on"
            + " each of the next 365 days.", () -> {
                shortage(0, 1);
                shortage(1, 1, "1 0");
                shortage(0, 2, "1 0");
                shortage(1, 1, "2 0");
                shortage(2, 1, "2 1");
                shortage(1, 2, "3 99");
                shortage(2, 2, "4 99");
                shortage(364, 1, "364 9999");
                shortage(365, 1, "365 9999");
                shortage(365, 1, "366 9999");
                shortage(365, 1, "999 9999");
                shortage(364, 1, "999 363");
                shortage(365, 1, "999 364");
                shortage(365, 1, "999 365");
                shortage(365, 2, "730 9999");
                shortage(364, 2, "729 9999");
                shortage(365, 1, "100 99", "900 9999");
                // The first batch is expired on its second day with units left.
                shortage(3, 5, "100 0", "10 9");
                shortage(2, 5, "6 0", "5 9");
                BatchWarehouse x = with("9 0", "9 9");
                x.passDays(1);
                Check.due("an expired batch meets nothing", 1, () -> x.daysUntilShortage(0, 9));
                BatchWarehouse y = with("9 9");
                y.reserve(0, 5, 0);
                Check.due("reserved units meet nothing", 4, () -> y.daysUntilShortage(0, 1));
                y.reserve(0, 4, 0);
                Check.due("all are reserved", 0, () -> y.daysUntilShortage(0, 1));
                BatchWarehouse last = Scene.lastDay();
                Check.due("on day 9999", 1, () -> last.daysUntilShortage(0, 9));
                Check.due("one unit less", 1, () -> last.daysUntilShortage(0, 8));
                Check.due("one unit more", 0, () -> last.daysUntilShortage(0, 10));
                changesNothing((z, v) -> z.daysUntilShortage(v, 999));
            });
        Edges.edge("Throws `IllegalArgumentException` if demand is out of range", () -> {
            Edges.unfit(Scene::bare, (x, v) -> x.daysUntilShortage(0, v), 0, -1, 1000);
            Edges.unfit(Scene::lastDay, (x, v) -> x.daysUntilShortage(0, v), 0, 1000, Integer.MIN_VALUE, Integer.MAX_VALUE);
        });
    }

    private static void wasteWithDemand() throws Exception {
        Edges.section("Promise 46");
        Edges.product((x, v) -> x.wasteWithDemand(v, 0, 0), (x, v) -> x.wasteWithDemand(v, -1, 0), (x, v) -> x.wasteWithDemand(v, 0, 366),
            (x, v) -> x.wasteWithDemand(v, 1000, -1));
        Edges.edge("`demand`: 0 to 999 units a day", () -> {
            Edges.range(Scene::busy, (x, v) -> x.wasteWithDemand(0, v, 365), 0, 999);
            waste(999, 0, 365, "999 0");
            waste(0, 999, 365, "999 0");
            waste(1, 999, 365, "999 0", "1 0");
            waste(998, 1, 365, "999 0");
        });
        Edges.edge("`days`: 0 to 365", () -> {
            Edges.range(Scene::busy, (x, v) -> x.wasteWithDemand(0, 1, v), 0, 365);
            waste(0, 0, 365, "9 364");
            waste(9, 0, 365, "9 363");
            waste(0, 0, 364, "9 363");
            waste(0, 0, 365, "9 9999");
        });
        Edges.edge("Returns the number of units of the product that are written off during so many days.", () -> {
            waste(0, 0, 0);
            waste(0, 0, 365);
            waste(0, 0, 0, "9 0");
            waste(0, 0, 1, "9 0");
            waste(9, 0, 2, "9 0");
            waste(8, 1, 2, "9 0");
            waste(0, 0, 2, "9 1");
            waste(9, 0, 3, "9 1");
            waste(1, 4, 3, "9 1");
            waste(0, 5, 3, "9 1");
            // What the first batch has left is lost before the second is asked for it.
            waste(4, 5, 365, "9 0", "5 1");
            waste(5, 5, 365, "9 0", "6 1");
            waste(0, 9, 365, "9 0", "9 1");
            // The first batch does not meet the whole demand, so the second helps on the first day too.
            waste(0, 6, 365, "5 0", "7 1");
            waste(1, 6, 365, "5 0", "8 1");
            BatchWarehouse x = with("9 0", "7 3");
            x.passDays(1);
            Check.due("no day", 0, () -> x.wasteWithDemand(0, 9, 0));
            Check.due("expired stock goes on the first day", 9, () -> x.wasteWithDemand(0, 999, 1));
            Check.due("not of another product", 0, () -> with("9 99").wasteWithDemand(0, 0, 50));
            x.reserve(0, 7, 3);
            Check.due("reserved units are written off too", 16, () -> x.wasteWithDemand(0, 999, 365));
            Check.due("on day 9999", 4, () -> Scene.lastDay().wasteWithDemand(0, 0, 1));
            Check.due("on the day behind it", 13, () -> Scene.lastDay().wasteWithDemand(0, 0, 2));
            Check.due("of 20 full batches", 19980, () -> Scene.plenty().wasteWithDemand(0, 0, 365));
            Check.due("of 20 full batches with the greatest demand", 0, () -> Scene.plenty().wasteWithDemand(0, 999, 365));
            changesNothing((z, v) -> z.wasteWithDemand(v, 1, 365));
        });
        Edges.edge("Throws `IllegalArgumentException` if demand or days is out of range", () -> {
            Edges.unfit(Scene::bare, (x, v) -> x.wasteWithDemand(0, v, 1), -1, 1000);
            Edges.unfit(Scene::bare, (x, v) -> x.wasteWithDemand(0, 1, v), -1, 366);
            Edges.unfit(Scene::lastDay, (x, v) -> x.wasteWithDemand(0, v, v), -1, 1000, Integer.MIN_VALUE, Integer.MAX_VALUE);
        });
    }

    private static void demandWithoutWaste() throws Exception {
        Edges.section("Promise 47");
        Edges.product((x, v) -> x.demandWithoutWaste(v));
        Edges.edge("Returns the least demand, 0 to 999, for which wasteWithDemand() for 365 days would be 0; NONE if there is none.", () -> {
            least(0);
            least(1, "1 0");
            least(999, "999 0");
            least(-1, "999 0", "1 0");
            least(999, "999 0", "999 1");
            least(-1, "999 1", "999 1", "1 1");
            least(999, "999 1", "999 1");
            least(1, "2 1");
            least(2, "3 1");
            least(0, "999 364");
            least(1, "364 363");
            least(2, "365 363");
            least(0, "999 9999");
            least(5, "5 0", "1 9");
            least(3, "1 0", "9 3");
            least(3, "1 0", "11 3");
            least(4, "1 0", "12 3");
            BatchWarehouse x = with("1 0", "9 9");
            x.passDays(1);
            Check.due("an expired unit is waste", BatchWarehouse.NONE, () -> x.demandWithoutWaste(0));
            x.writeOffExpired();
            Check.due("9 units in 9 days", 1, () -> x.demandWithoutWaste(0));
            x.reserve(0, 1, 9);
            Check.due("a reserved unit will be waste", BatchWarehouse.NONE, () -> x.demandWithoutWaste(0));
            BatchWarehouse y = with("9 364");
            y.reserve(0, 9, 9);
            Check.due("not within 365 days", 0, () -> y.demandWithoutWaste(0));
            Check.due("all issued", 0, () -> {
                BatchWarehouse z = with("9 0");
                z.issue(0, 9);
                z.passDays(1);
                return z.demandWithoutWaste(0);
            });
            String[][] each = {{}, {"1 0"}, {"999 0"}, {"365 363"}, {"999 364"}, {"12 3", "1 0"}, {"999 1", "999 1"}, {"7 3", "40 11", "3 200"}};
            for (String[] batches : each) {
                int demand = with(batches).demandWithoutWaste(0);
                waste(0, demand, 365, batches);
                if (demand > 0) {
                    Check.note("less is too little", true, with(batches).wasteWithDemand(0, demand - 1, 365) > 0);
                }
            }
            changesNothing((z, v) -> z.demandWithoutWaste(v));
        });
    }
}
