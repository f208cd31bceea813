/** Promises 38 to 44: the accounts. */
public final class AccountsTest {
    public static void main(String[] args) {
        accounts();
        noSuchProduct();
        meanCost();
        wasteShare();
        Check.end("AccountsTest");
    }

    private static void accounts() {
        BatchWarehouse x = new BatchWarehouse();
        Check.due("received by the setup", 50, () -> x.receivedUnits(0));
        x.receive(0, 5, 9, 1);
        Check.due("received", 55, () -> x.receivedUnits(0));
        Check.due("of another product", 100, () -> x.receivedUnits(1));
        x.issue(0, 3);
        x.reserve(0, 4, 0);
        Check.due("reserving delivers nothing", 3, () -> x.deliveredUnits(0));
        x.ship(0);
        Check.due("issued and shipped", 7, () -> x.deliveredUnits(0));
        x.reserve(0, 6, 0);
        x.cancel(1);
        Check.due("cancelling delivers nothing", 7, () -> x.deliveredUnits(0));
        x.takeStock(0, 25);
        x.takeStock(0, 27);
        Check.due("adjustment", -3, () -> x.adjustment(0));
        x.takeStock(0, 40);
        Check.due("adjustment upwards", 10, () -> x.adjustment(0));
        Check.due("adjustment of another product", 0, () -> x.adjustment(1));
        Check.due("nothing written off", 0, () -> x.writtenOffUnits(0));
        x.passDays(4);
        Check.due("not by expiring", 0, () -> x.writtenOffUnits(0));
        x.writeOffExpired();
        Check.due("13 units were left", 13, () -> x.writtenOffUnits(0));
        x.passDays(6);
        x.writeOffExpired();
        Check.due("and all others", 58, () -> x.writtenOffUnits(0));
        Check.due("eggs too", 24, () -> x.writtenOffUnits(2));
        Check.due("rice not", 0, () -> x.writtenOffUnits(1));
        Check.due("on hand by the accounts", 55 - 7 - 58 + 10, () -> x.onHand(0));
        Check.due("consistent", 0, x::inconsistencies);
    }

    private static void noSuchProduct() {
        BatchWarehouse x = new BatchWarehouse();
        for (int product : new int[] {-1, 3, 8, Integer.MIN_VALUE, Integer.MAX_VALUE}) {
            Check.outside("receivedUnits " + product, () -> x.receivedUnits(product));
            Check.outside("deliveredUnits " + product, () -> x.deliveredUnits(product));
            Check.outside("writtenOffUnits " + product, () -> x.writtenOffUnits(product));
            Check.outside("adjustment " + product, () -> x.adjustment(product));
            Check.outside("meanCost " + product, () -> x.meanCost(product));
            Check.outside("wasteShare " + product, () -> x.wasteShare(product));
        }
    }

    private static void meanCost() {
        BatchWarehouse x = new BatchWarehouse();
        Check.due("of two batches", 560.0 / 50.0, () -> x.meanCost(0));
        Check.due("of one batch", 4.0, () -> x.meanCost(1));
        x.issue(0, 7);
        Check.due("no whole number", 490.0 / 43.0, () -> x.meanCost(0));
        x.issue(2, 24);
        Check.due("none on hand", 0.0, () -> x.meanCost(2));
    }

    private static void wasteShare() {
        BatchWarehouse x = Check.loaded("warehouse;product a 1;product b 1;batch a 2 1 1;batch a 1 0 1;batch a 4 9 1;");
        Check.due("nothing received", 0.0f, () -> x.wasteShare(1));
        Check.due("nothing written off", 0.0f, () -> x.wasteShare(0));
        x.passDays(1);
        x.writeOffExpired();
        Check.due("one of seven", 1.0f / 7.0f, () -> x.wasteShare(0));
        x.passDays(1);
        x.writeOffExpired();
        Check.due("three of seven", 3.0f / 7.0f, () -> x.wasteShare(0));
        x.takeStock(0, 999);
        x.writeOffExpired();
        Check.due("more than was received", 1002.0f / 7.0f, () -> x.wasteShare(0));
    }
}
