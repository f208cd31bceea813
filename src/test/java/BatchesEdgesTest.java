/** The edges of promises 21 to 29, each with the sentence that names it. */
public final class BatchesEdgesTest {
    public static void main(String[] args) throws Exception {
        batchCount();
        productOf();
        quantity();
        reservedOf();
        expiryDay();
        unitCost();
        isExpired();
        issueOrder();
        costOfIssue();
        Edges.end("BatchesEdgesTest");
    }

    private static void batchCount() throws Exception {
        Edges.section("Promise 21");
        Edges.edge("Returns 0 to 20.", () -> {
            Check.due("0", 0, () -> Scene.bare().batchCount());
            Check.due("1", 1, () -> Scene.one().batchCount());
            Check.due("20", 20, () -> Scene.twentyBatches().batchCount());
            BatchWarehouse x = Scene.bare();
            for (int count = 1; count <= 20; count++) {
                x.receive(0, 1, 1, 1);
                Check.due("after a receipt", count, x::batchCount);
            }
            Check.impossible("a 21st", () -> x.receive(0, 1, 1, 1));
            Check.due("20 still", 20, x::batchCount);
            x.undo();
            Check.due("19 after undo", 19, x::batchCount);
            x.passDays(2);
            x.writeOffExpired();
            Check.due("empty batches count", 19, x::batchCount);
        });
    }

    private static void productOf() throws Exception {
        Edges.section("Promise 22");
        Edges.batch((x, v) -> x.productOf(v));
        Edges.edge("Returns the number of the product.", () -> {
            Check.due("the first of the only one", 0, () -> Scene.one().productOf(0));
            Check.due("the first of eight", 0, () -> Scene.eight().productOf(0));
            Check.due("the last of eight", 7, () -> Scene.eight().productOf(7));
            Check.due("the 20th batch", 0, () -> Scene.twentyBatches().productOf(19));
            BatchWarehouse x = Scene.fresh();
            x.passDays(10);
            x.writeOffExpired();
            Check.due("an empty one", 2, () -> x.productOf(3));
        });
    }

    private static void quantity() throws Exception {
        Edges.section("Promise 23");
        Edges.batch((x, v) -> x.quantity(v));
        Edges.edge("Returns the on-hand quantity.", () -> {
            BatchWarehouse x = Check.loaded("warehouse;product z 1;batch z 1 9 1;batch z 999 9 1;");
            Check.due("1", 1, () -> x.quantity(0));
            Check.due("999", 999, () -> x.quantity(1));
            x.issue(0, 1);
            Check.due("0", 0, () -> x.quantity(0));
            x.reserve(0, 999, 0);
            Check.due("reserved or not", 999, () -> x.quantity(1));
            x.passDays(10);
            Check.due("expired or not", 999, () -> x.quantity(1));
            x.writeOffExpired();
            Check.due("written off", 0, () -> x.quantity(1));
        });
    }

    private static void reservedOf() throws Exception {
        Edges.section("Promise 24");
        Edges.batch((x, v) -> x.reservedOf(v));
        Edges.edge("Returns the reserved quantity.", () -> {
            BatchWarehouse x = Check.loaded("warehouse;product z 1;batch z 9 9 1;batch z 9 9 1;");
            Check.due("none", 0, () -> x.reservedOf(0));
            x.reserve(0, 9, 0);
            Check.due("all of the first", 9, () -> x.reservedOf(0));
            Check.due("none of the second", 0, () -> x.reservedOf(1));
            x.reserve(0, 9, 0);
            Check.due("all of the second", 9, () -> x.reservedOf(1));
            x.ship(0);
            Check.due("shipped", 0, () -> x.reservedOf(0));
            x.cancel(1);
            Check.due("cancelled", 0, () -> x.reservedOf(1));
            x.reserve(0, 9, 0);
            x.passDays(10);
            Check.due("expired, but reserved", 9, () -> x.reservedOf(1));
            x.writeOffExpired();
            Check.due("written off", 0, () -> x.reservedOf(1));
        });
    }

    private static void expiryDay() throws Exception {
        Edges.section("Promise 25");
        Edges.batch((x, v) -> x.expiryDay(v));
        Edges.edge("Returns 0 to 9999.", () -> {
            BatchWarehouse x = Check.loaded("warehouse;product z 1;batch z 9 0 1;batch z 9 9999 1;");
            Check.due("0 of a setup", 0, () -> x.expiryDay(0));
            Check.due("9999 of a setup", 9999, () -> x.expiryDay(1));
            x.receive(0, 1, 0, 1);
            x.receive(0, 1, 9999, 1);
            Check.due("0 received", 0, () -> x.expiryDay(2));
            Check.due("9999 received", 9999, () -> x.expiryDay(3));
        });
    }

    private static void unitCost() throws Exception {
        Edges.section("Promise 26");
        Edges.batch((x, v) -> x.unitCost(v));
        Edges.edge("Returns 1 to 999.", () -> {
            BatchWarehouse x = Check.loaded("warehouse;product z 1;batch z 9 0 1;batch z 9 0 999;");
            Check.due("1 of a setup", 1, () -> x.unitCost(0));
            Check.due("999 of a setup", 999, () -> x.unitCost(1));
            x.receive(0, 1, 0, 1);
            x.receive(0, 1, 0, 999);
            Check.due("1 received", 1, () -> x.unitCost(2));
            Check.due("999 received", 999, () -> x.unitCost(3));
        });
    }

    private static void isExpired() throws Exception {
        Edges.section("Promise 27");
        Edges.batch((x, v) -> x.isExpired(v));
        Edges.edge("Returns whether it is expired.", () -> {
            BatchWarehouse x = Check.loaded("warehouse;product z 1;batch z 9 0 1;batch z 9 1 1;batch z 9 2 1;");
            for (int day = 0; day <= 3; day++) {
                for (int b = 0; b < 3; b++) {
                    int batch = b;
                    Check.due("expiry day " + b + " on day " + day, b < day, () -> x.isExpired(batch));
                }
                x.passDays(1);
            }
            x.writeOffExpired();
            Check.due("empty or not", true, () -> x.isExpired(0));
            Check.due("expiry day 9999 on day 9999", false, () -> Scene.lastDay().isExpired(0));
            Check.due("expiry day 9998 on day 9999", true, () -> Scene.lastDay().isExpired(1));
        });
    }

    private static BatchWarehouse threeInOrder() {
        return Check.loaded("warehouse;product z 1;product y 1;batch z 5 6 1;batch y 9 1 1;batch z 5 4 10;batch z 5 6 100;");
    }

    private static void order(String what, BatchWarehouse x, int... batches) {
        for (int i = 0; i < batches.length; i++) {
            int position = i;
            Check.due(what + " at " + i, batches[i], () -> x.issueOrder(0, position));
        }
        Check.due(what + " behind its end", BatchWarehouse.NONE, () -> x.issueOrder(0, batches.length));
        Check.due(what + " before its start", BatchWarehouse.NONE, () -> x.issueOrder(0, -1));
    }

    private static void issueOrder() throws Exception {
        Edges.section("Promise 28");
        Edges.product((x, v) -> x.issueOrder(v, 0), (x, v) -> x.issueOrder(v, -1), (x, v) -> x.issueOrder(v, 20));
        Edges.edge("`position`: position in the order, from 0", () -> {
            order("three", threeInOrder(), 2, 0, 3);
            Check.due("the 20th of 20", 19, () -> Scene.twentyBatches().issueOrder(0, 19));
            Check.due("the first of 20", 0, () -> Scene.twentyBatches().issueOrder(0, 0));
            Check.due("a 21st of 20", BatchWarehouse.NONE, () -> Scene.twentyBatches().issueOrder(0, 20));
        });
        Edges.edge("Returns the number of the batch; NONE if position is out of range.", () -> {
            order("no batch", Scene.bare());
            BatchWarehouse x = threeInOrder();
            for (int far : Edges.FAR) {
                Check.due("position " + far, BatchWarehouse.NONE, () -> x.issueOrder(0, far));
            }
            x.reserve(0, 4, 0);
            order("a unit is free", x, 2, 0, 3);
            x.reserve(0, 1, 0);
            order("the last unit is reserved", x, 0, 3);
            x.passDays(6);
            order("the last day", x, 0, 3);
            x.issue(0, 5);
            order("one is empty", x, 3);
            x.cancel(0);
            order("what becomes free is expired", x, 3);
            x.passDays(1);
            order("all are expired", x);
        });
    }

    private static void costOfIssue() throws Exception {
        Edges.section("Promise 29");
        Edges.product((x, v) -> x.costOfIssue(v, 1), (x, v) -> x.costOfIssue(v, 0), (x, v) -> x.costOfIssue(v, 10000));
        Edges.edge("`quantity`: 1 to 9999", () -> {
            Edges.range(Scene::busy, (x, v) -> x.costOfIssue(0, v), 1, 9999);
            Check.due("1 of plenty", 999, () -> Scene.plenty().costOfIssue(0, 1));
            Check.due("9999 of plenty", 9999 * 999, () -> Scene.plenty().costOfIssue(0, 9999));
        });
        Edges.edge("Returns the sum of the unit costs of the units that would be taken in the issue order for the current day; NONE if there"
            + " are not enough.", () -> {
                int[][] due = {{1, 10}, {5, 50}, {6, 51}, {10, 55}, {11, 155}, {15, 555}, {16, -1}, {9999, -1}};
                for (int[] each : due) {
                    Check.due(each[0] + " of 15", each[1], () -> threeInOrder().costOfIssue(0, each[0]));
                }
                Check.due("no batch", BatchWarehouse.NONE, () -> Scene.bare().costOfIssue(0, 1));
                BatchWarehouse x = threeInOrder();
                x.reserve(0, 14, 0);
                Check.due("the last free unit", 100, () -> x.costOfIssue(0, 1));
                Check.due("one more", BatchWarehouse.NONE, () -> x.costOfIssue(0, 2));
                x.reserve(0, 1, 0);
                Check.due("none is free", BatchWarehouse.NONE, () -> x.costOfIssue(0, 1));
                BatchWarehouse later = threeInOrder();
                later.passDays(5);
                Check.due("not from the expired one", 505, () -> later.costOfIssue(0, 10));
                Check.due("one more", BatchWarehouse.NONE, () -> later.costOfIssue(0, 11));
                Check.sameSight("asking changes nothing", Sight.ofAll(Scene::busy), Sight.ofAll(() -> {
                    BatchWarehouse y = Scene.busy();
                    y.costOfIssue(1, 87);
                    return y;
                }));
            });
        Edges.edge("Throws `IllegalArgumentException` if quantity is out of range", () -> {
            Edges.unfit(Scene::bare, (x, v) -> x.costOfIssue(0, v), 0, -1, 10000);
            Edges.unfit(Scene::plenty, (x, v) -> x.costOfIssue(0, v), 0, 10000);
            Edges.unfit(Scene::busy, (x, v) -> x.costOfIssue(2, v), Integer.MIN_VALUE, Integer.MAX_VALUE);
        });
    }
}
