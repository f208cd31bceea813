/** Promises 21 to 29: the batches. */
public final class BatchesTest {
    public static void main(String[] args) {
        facts();
        noSuchBatch();
        issueOrder();
        costOfIssue();
        Check.end("BatchesTest");
    }

    private static void facts() {
        BatchWarehouse none = Check.loaded("warehouse;product z 1;");
        Check.due("no batch", 0, none::batchCount);
        BatchWarehouse x = new BatchWarehouse();
        Check.due("four batches", 4, x::batchCount);
        x.receive(2, 7, 1, 999);
        Check.due("five batches", 5, x::batchCount);
        Check.due("product", 2, () -> x.productOf(4));
        Check.due("quantity", 7, () -> x.quantity(4));
        Check.due("expiry", 1, () -> x.expiryDay(4));
        Check.due("cost", 999, () -> x.unitCost(4));
        x.reserve(2, 6, 1);
        x.reserve(2, 1, 0);
        Check.due("reserved by two", 7, () -> x.reservedOf(4));
        Check.due("not expired", false, () -> x.isExpired(4));
        x.passDays(1);
        Check.due("not expired on its day", false, () -> x.isExpired(4));
        x.ship(1);
        Check.due("reserved by one", 6, () -> x.reservedOf(4));
        Check.due("quantity after shipping", 6, () -> x.quantity(4));
        x.passDays(1);
        Check.due("expired", true, () -> x.isExpired(4));
        Check.due("another one is not", false, () -> x.isExpired(3));
        x.writeOffExpired();
        Check.due("an empty batch stays", 5, x::batchCount);
        Check.due("its quantity", 0, () -> x.quantity(4));
        Check.due("its reserved quantity", 0, () -> x.reservedOf(4));
        Check.due("its expiry", 1, () -> x.expiryDay(4));
    }

    private static void noSuchBatch() {
        BatchWarehouse x = new BatchWarehouse();
        for (int batch : new int[] {-1, 4, 19, 20, Integer.MIN_VALUE, Integer.MAX_VALUE}) {
            Check.outside("productOf " + batch, () -> x.productOf(batch));
            Check.outside("quantity " + batch, () -> x.quantity(batch));
            Check.outside("reservedOf " + batch, () -> x.reservedOf(batch));
            Check.outside("expiryDay " + batch, () -> x.expiryDay(batch));
            Check.outside("unitCost " + batch, () -> x.unitCost(batch));
            Check.outside("isExpired " + batch, () -> x.isExpired(batch));
        }
    }

    private static void order(BatchWarehouse x, int product, int... batches) {
        for (int i = 0; i < batches.length; i++) {
            int position = i;
            Check.due("order of " + product + " at " + i, batches[i], () -> x.issueOrder(product, position));
        }
        Check.due("end of the order of " + product, -1, () -> x.issueOrder(product, batches.length));
        Check.due("before the order of " + product, -1, () -> x.issueOrder(product, -1));
    }

    private static void issueOrder() {
        BatchWarehouse x = Check.loaded("warehouse;product a 1;product b 1;"
            + "batch a 5 9 1;batch a 5 4 1;batch b 5 1 1;batch a 5 9 1;batch a 5 4 1;batch a 5 0 1;");
        order(x, 0, 5, 1, 4, 0, 3);
        order(x, 1, 2);
        x.issue(0, 5);
        order(x, 0, 1, 4, 0, 3);
        x.reserve(0, 8, 4);
        order(x, 0, 4, 0, 3);
        x.reserve(0, 2, 0);
        order(x, 0, 0, 3);
        x.cancel(0);
        order(x, 0, 1, 4, 0, 3);
        x.passDays(4);
        order(x, 0, 1, 4, 0, 3);
        x.passDays(1);
        order(x, 0, 0, 3);
        order(x, 1);
        Check.outside("no product 2", () -> x.issueOrder(2, 0));
        Check.outside("no product -1", () -> x.issueOrder(-1, -1));
        Check.due("far position", -1, () -> x.issueOrder(0, Integer.MAX_VALUE));
        Check.due("least position", -1, () -> x.issueOrder(0, Integer.MIN_VALUE));
    }

    private static void costOfIssue() {
        BatchWarehouse x = new BatchWarehouse();
        Check.due("one unit", 10, () -> x.costOfIssue(0, 1));
        Check.due("the first batch", 200, () -> x.costOfIssue(0, 20));
        Check.due("into the second", 212, () -> x.costOfIssue(0, 21));
        Check.due("all", 560, () -> x.costOfIssue(0, 50));
        Check.due("one too many", -1, () -> x.costOfIssue(0, 51));
        Check.due("9999", -1, () -> x.costOfIssue(0, 9999));
        Check.unfit("0", () -> x.costOfIssue(0, 0));
        Check.unfit("10000", () -> x.costOfIssue(0, 10000));
        Check.unfit("-1", () -> x.costOfIssue(0, -1));
        Check.outside("no product 3", () -> x.costOfIssue(3, 0));
        Check.outside("no product -1", () -> x.costOfIssue(-1, 1));
        Check.due("nothing changed", 50, () -> x.onHand(0));
        x.reserve(0, 15, 0);
        Check.due("free units only", 5 * 10 + 5 * 12, () -> x.costOfIssue(0, 10));
        Check.due("all free units", 5 * 10 + 30 * 12, () -> x.costOfIssue(0, 35));
        Check.due("more than are free", -1, () -> x.costOfIssue(0, 36));
        x.passDays(4);
        Check.due("not from the expired batch", 12, () -> x.costOfIssue(0, 1));
        Check.due("nothing to undo but two changes", 1, x::undo);
    }
}
