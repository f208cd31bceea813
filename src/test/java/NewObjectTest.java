/** Promise 1 and the constant. */
public final class NewObjectTest {
    public static void main(String[] args) {
        BatchWarehouse x = new BatchWarehouse();
        Check.due("NONE", -1, () -> BatchWarehouse.NONE);
        Check.due("products", 3, x::productCount);
        String[] names = {"milk", "rice", "eggs"};
        int[] minimums = {20, 50, 10};
        int[] received = {50, 100, 24};
        for (int p = 0; p < 3; p++) {
            int product = p;
            Check.due("name " + p, names[p], () -> Check.name(x, product));
            Check.due("minimum " + p, minimums[p], () -> x.minimumStock(product));
            Check.due("received " + p, received[p], () -> x.receivedUnits(product));
            Check.due("on hand " + p, received[p], () -> x.onHand(product));
            Check.due("delivered " + p, 0, () -> x.deliveredUnits(product));
            Check.due("written off " + p, 0, () -> x.writtenOffUnits(product));
            Check.due("adjustment " + p, 0, () -> x.adjustment(product));
        }
        int[][] batches = {{0, 30, 5, 12}, {0, 20, 3, 10}, {1, 100, 200, 4}, {2, 24, 9, 3}};
        Check.due("batches", 4, x::batchCount);
        for (int b = 0; b < 4; b++) {
            int batch = b;
            Check.due("product of " + b, batches[b][0], () -> x.productOf(batch));
            Check.due("quantity of " + b, batches[b][1], () -> x.quantity(batch));
            Check.due("expiry of " + b, batches[b][2], () -> x.expiryDay(batch));
            Check.due("cost of " + b, batches[b][3], () -> x.unitCost(batch));
            Check.due("reserved of " + b, 0, () -> x.reservedOf(batch));
        }
        Check.due("day", 0, x::day);
        Check.due("reservations", 0, x::reservationCount);
        Check.due("error code", 0, x::errorCode);
        Check.due("error position", -1, x::errorPosition);
        Check.impossible("nothing to undo", x::undo);
        Check.impossible("nothing saved in slot 0", () -> x.restore(0));
        Check.impossible("nothing saved in slot 1", () -> x.restore(1));
        Check.outside("nothing written", () -> x.outputByte(0));
        Check.due("input is empty", 0, () -> x.truncate(0));
        Check.unfit("input has no byte", () -> x.truncate(1));
        Check.end("NewObjectTest");
    }
}
