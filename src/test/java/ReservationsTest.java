/** Promises 30 to 37: the reservations. */
public final class ReservationsTest {
    public static void main(String[] args) {
        facts();
        noSuchReservation();
        missing();
        allocationsAreKept();
        whyNotShipped();
        endangered();
        Check.end("ReservationsTest");
    }

    private static void facts() {
        BatchWarehouse x = new BatchWarehouse();
        Check.due("none", 0, x::reservationCount);
        x.reserve(0, 25, 2);
        x.reserve(2, 24, 9);
        Check.due("two", 2, x::reservationCount);
        Check.due("product", 0, () -> x.reservedProduct(0));
        Check.due("product", 2, () -> x.reservedProduct(1));
        Check.due("quantity", 25, () -> x.reservedQuantity(0));
        Check.due("quantity", 24, () -> x.reservedQuantity(1));
        Check.due("open", true, () -> x.isOpen(0));
        Check.due("first expiring batch", 20, () -> x.allocation(0, 1));
        Check.due("next batch", 5, () -> x.allocation(0, 0));
        Check.due("batch of another product", 0, () -> x.allocation(0, 3));
        Check.due("all eggs", 24, () -> x.allocation(1, 3));
        Check.due("nothing missing", 0, () -> x.missing(0));
        x.ship(0);
        Check.due("shipped", false, () -> x.isOpen(0));
        Check.due("the other is open", true, () -> x.isOpen(1));
        x.cancel(1);
        Check.due("cancelled", false, () -> x.isOpen(1));
        Check.due("both stay", 2, x::reservationCount);
        Check.due("quantity stays", 24, () -> x.reservedQuantity(1));
        BatchWarehouse ten = new BatchWarehouse();
        for (int i = 0; i < 10; i++) {
            int number = i;
            Check.due("reservation " + i, number, () -> ten.reserve(1, 1, 0));
        }
        Check.due("ten", 10, ten::reservationCount);
        Check.due("the tenth", 1, () -> ten.allocation(9, 2));
    }

    private static void noSuchReservation() {
        BatchWarehouse x = new BatchWarehouse();
        Check.outside("none yet", () -> x.isOpen(0));
        x.reserve(0, 1, 0);
        for (int reservation : new int[] {-1, 1, 9, 10, 107374182, 214748365, Integer.MIN_VALUE, Integer.MAX_VALUE}) {
            Check.outside("reservedProduct " + reservation, () -> x.reservedProduct(reservation));
            Check.outside("reservedQuantity " + reservation, () -> x.reservedQuantity(reservation));
            Check.outside("isOpen " + reservation, () -> x.isOpen(reservation));
            Check.outside("missing " + reservation, () -> x.missing(reservation));
            Check.outside("allocation " + reservation, () -> x.allocation(reservation, 0));
            Check.outside("whyNotShipped " + reservation, () -> x.whyNotShipped(reservation));
        }
        for (int batch : new int[] {-1, 4, 19, 20, Integer.MIN_VALUE, Integer.MAX_VALUE}) {
            Check.outside("allocation to " + batch, () -> x.allocation(0, batch));
        }
    }

    private static void missing() {
        BatchWarehouse x = new BatchWarehouse();
        x.reserve(0, 25, 2);
        x.reserve(0, 10, 2);
        x.passDays(4);
        x.writeOffExpired();
        Check.due("units of a written-off batch", 20, () -> x.missing(0));
        Check.due("no allocation to it", 0, () -> x.allocation(0, 1));
        Check.due("the other allocation", 5, () -> x.allocation(0, 0));
        Check.due("the quantity is kept", 25, () -> x.reservedQuantity(0));
        Check.due("nothing missing here", 0, () -> x.missing(1));
        x.cancel(0);
        Check.due("0 when it is not open", 0, () -> x.missing(0));
    }

    private static void allocationsAreKept() {
        BatchWarehouse x = new BatchWarehouse();
        x.reserve(0, 8, 2);
        x.reserve(0, 3, 2);
        x.reserve(0, 2, 2);
        x.ship(0);
        x.cancel(1);
        x.passDays(4);
        x.writeOffExpired();
        Check.due("of a shipped one", 8, () -> x.allocation(0, 1));
        Check.due("of a cancelled one", 3, () -> x.allocation(1, 1));
        Check.due("not of an open one", 0, () -> x.allocation(2, 1));
        Check.due("shipped: nothing missing", 0, () -> x.missing(0));
        Check.due("12 units written off", 12, () -> x.writtenOffUnits(0));
    }

    private static void whyNotShipped() {
        BatchWarehouse x = new BatchWarehouse();
        x.reserve(0, 25, 9999 - 9994);
        x.reserve(0, 20, 3);
        x.reserve(0, 5, 3);
        Check.due("can be shipped before its day", 0, () -> x.whyNotShipped(0));
        x.passDays(3);
        Check.due("the last day of a batch", 0, () -> x.whyNotShipped(1));
        x.passDays(1);
        Check.due("expired", 3, () -> x.whyNotShipped(1));
        Check.due("in another batch", 0, () -> x.whyNotShipped(0));
        Check.due("from the other batch", 0, () -> x.whyNotShipped(2));
        x.passDays(2);
        Check.due("all are expired", 3, () -> x.whyNotShipped(0));
        x.cancel(2);
        Check.due("not open comes first", 1, () -> x.whyNotShipped(2));
        x.writeOffExpired();
        Check.due("missing", 2, () -> x.whyNotShipped(1));
        BatchWarehouse y = Check.loaded("warehouse;product a 1;batch a 5 1 1;batch a 5 3 1;");
        y.reserve(0, 8, 0);
        y.passDays(2);
        y.writeOffExpired();
        y.passDays(2);
        Check.due("missing comes before expired", 2, () -> y.whyNotShipped(0));
        BatchWarehouse z = Check.loaded("warehouse;product a 1;batch a 5 1 1;");
        z.reserve(0, 4, 0);
        z.ship(0);
        z.passDays(5);
        Check.due("shipped", 1, () -> z.whyNotShipped(0));
    }

    private static void endangered() {
        BatchWarehouse x = new BatchWarehouse();
        Check.due("none", 0, x::endangeredReservations);
        x.reserve(0, 20, 3);
        x.reserve(0, 5, 5);
        x.reserve(1, 5, 5);
        Check.due("all will last", 0, x::endangeredReservations);
        x.passDays(3);
        Check.due("the last day", 0, x::endangeredReservations);
        x.passDays(1);
        Check.due("expired now", 1, x::endangeredReservations);
        x.passDays(2);
        Check.due("two expired", 2, x::endangeredReservations);
        x.cancel(0);
        Check.due("only open ones", 1, x::endangeredReservations);
        x.writeOffExpired();
        Check.due("no allocation, no danger", 0, x::endangeredReservations);
        // A refill is taken for the greater day, so only a day that has come ends a batch too early.
        BatchWarehouse y = Check.loaded("warehouse;product a 1;batch a 9 4 1;batch a 9 6 1;");
        y.reserve(0, 10, 4);
        y.passDays(5);
        Check.due("one batch of two is enough", 1, y::endangeredReservations);
        Check.due("it counts once", 3, () -> y.whyNotShipped(0));
        y.passDays(5);
        Check.due("both batches count once", 1, y::endangeredReservations);
    }
}
