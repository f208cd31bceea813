/** Promises 48 to 56: the changes. */
public final class ChangesTest {
    public static void main(String[] args) {
        receive();
        issue();
        reserve();
        ship();
        cancel();
        refill();
        takeStock();
        writeOffExpired();
        passDays();
        Check.end("ChangesTest");
    }

    private static void receive() {
        BatchWarehouse x = new BatchWarehouse();
        Check.due("the next number", 4, () -> x.receive(1, 999, 9999, 999));
        Check.due("and the next", 5, () -> x.receive(0, 1, 0, 1));
        Check.outside("product 3", () -> x.receive(3, 0, -1, 0));
        Check.outside("product -1", () -> x.receive(-1, 1, 1, 1));
        Check.unfit("quantity 0", () -> x.receive(0, 0, 1, 1));
        Check.unfit("quantity 1000", () -> x.receive(0, 1000, 1, 1));
        Check.unfit("expiry -1", () -> x.receive(0, 1, -1, 1));
        Check.unfit("expiry 10000", () -> x.receive(0, 1, 10000, 1));
        Check.unfit("cost 0", () -> x.receive(0, 1, 1, 0));
        Check.unfit("cost 1000", () -> x.receive(0, 1, 1, 1000));
        Check.due("refusals receive nothing", 6, x::batchCount);
        x.passDays(3);
        Check.due("expired already", 6, () -> x.receive(2, 4, 2, 1));
        Check.due("it is", true, () -> x.isExpired(6));
        for (int i = 7; i < 20; i++) {
            int batch = i;
            Check.due("batch " + i, batch, () -> x.receive(2, batch, 50, 2));
        }
        Check.due("the twentieth", 19, () -> x.quantity(19));
        Check.impossible("a 21st batch", () -> x.receive(2, 1, 1, 1));
        Check.unfit("a bad cost comes first", () -> x.receive(2, 1, 1, 0));
        Check.outside("no product comes first", () -> x.receive(9, 1, 1, 0));
        Check.due("still twenty", 20, x::batchCount);
        Check.due("received", 24 + 4 + (7 + 19) * 13 / 2, () -> x.receivedUnits(2));
    }

    private static void issue() {
        BatchWarehouse x = new BatchWarehouse();
        Check.outside("product 3", () -> x.issue(3, 0));
        Check.outside("product -1", () -> x.issue(-1, 1));
        Check.unfit("quantity 0", () -> x.issue(0, 0));
        Check.unfit("quantity 10000", () -> x.issue(0, 10000));
        Check.impossible("quantity 9999", () -> x.issue(0, 9999));
        Check.impossible("one too many", () -> x.issue(0, 51));
        Check.due("refusals take nothing", 50, () -> x.onHand(0));
        Check.due("over two batches", 200 + 24, () -> x.issue(0, 22));
        Check.due("the one that expires first", 0, () -> x.quantity(1));
        Check.due("the next", 28, () -> x.quantity(0));
        x.reserve(0, 8, 0);
        Check.impossible("reserved units are not available", () -> x.issue(0, 21));
        Check.due("all free units", 240, () -> x.issue(0, 20));
        Check.due("the reserved ones are left", 8, () -> x.quantity(0));
        x.passDays(10);
        Check.impossible("expired units are not available", () -> x.issue(2, 1));
        Check.due("delivered", 42, () -> x.deliveredUnits(0));
        BatchWarehouse y = Check.loaded("warehouse;product z 1;batch z 5 7 3;batch z 5 7 4;batch z 5 2 5;");
        Check.due("equal expiry days by number", 25 + 15 + 4, () -> y.issue(0, 11));
        Check.due("the second of the equal ones", 4, () -> y.quantity(1));
        y.passDays(7);
        Check.due("on the last day", 16, () -> y.issue(0, 4));
    }

    private static void reserve() {
        BatchWarehouse x = new BatchWarehouse();
        x.passDays(2);
        Check.outside("product 3", () -> x.reserve(3, 0, 0));
        Check.outside("product -1", () -> x.reserve(-1, 1, 5));
        Check.unfit("quantity 0", () -> x.reserve(0, 0, 5));
        Check.unfit("quantity 10000", () -> x.reserve(0, 10000, 5));
        Check.unfit("a past day", () -> x.reserve(0, 1, 1));
        Check.unfit("day 10000", () -> x.reserve(0, 1, 10000));
        Check.impossible("quantity 9999", () -> x.reserve(0, 9999, 5));
        Check.impossible("day 9999", () -> x.reserve(0, 1, 9999));
        Check.impossible("expired on the shipping day", () -> x.reserve(0, 31, 4));
        Check.due("refusals reserve nothing", 0, x::reservationCount);
        Check.due("on the current day", 0, () -> x.reserve(0, 5, 2));
        Check.due("the batch that expires first", 5, () -> x.allocation(0, 1));
        Check.due("for a later day", 1, () -> x.reserve(0, 30, 5));
        Check.due("the batch that lasts", 30, () -> x.allocation(1, 0));
        Check.impossible("15 are free", () -> x.reserve(0, 16, 2));
        Check.due("all of them", 2, () -> x.reserve(0, 15, 3));
        Check.due("nothing leaves the warehouse", 50, () -> x.onHand(0));
        for (int i = 3; i < 10; i++) {
            x.reserve(1, 2, 150);
        }
        Check.impossible("an 11th reservation", () -> x.reserve(1, 1, 150));
        Check.unfit("a bad day comes first", () -> x.reserve(1, 1, 0));
        x.cancel(9);
        Check.impossible("a cancelled one still counts", () -> x.reserve(1, 1, 150));
    }

    private static void ship() {
        BatchWarehouse x = new BatchWarehouse();
        Check.outside("none yet", () -> x.ship(0));
        x.reserve(0, 25, 3);
        x.reserve(0, 10, 5);
        Check.outside("-1", () -> x.ship(-1));
        Check.outside("2", () -> x.ship(2));
        Check.due("before its day", 200 + 60, () -> x.ship(0));
        Check.due("first batch", 0, () -> x.quantity(1));
        Check.due("second batch", 25, () -> x.quantity(0));
        Check.due("still reserved", 10, () -> x.reservedOf(0));
        Check.due("delivered", 25, () -> x.deliveredUnits(0));
        Check.impossible("twice", () -> x.ship(0));
        x.passDays(6);
        Check.impossible("expired", () -> x.ship(1));
        x.writeOffExpired();
        Check.impossible("missing", () -> x.ship(1));
        x.receive(0, 9, 9, 7);
        x.receive(0, 9, 10, 8);
        x.refill(1);
        Check.due("after its day", 9 * 7 + 8, () -> x.ship(1));
        Check.due("free again", 0, () -> x.reservedOf(5));
        Check.due("the rest", 8, () -> x.quantity(5));
        Check.due("consistent", 0, x::inconsistencies);
    }

    private static void cancel() {
        BatchWarehouse x = new BatchWarehouse();
        Check.outside("none yet", () -> x.cancel(0));
        x.reserve(0, 25, 3);
        x.reserve(0, 3, 3);
        x.passDays(4);
        x.writeOffExpired();
        Check.outside("-1", () -> x.cancel(-1));
        Check.outside("2", () -> x.cancel(2));
        Check.due("only the units that are allocated", 5, () -> x.cancel(0));
        Check.due("free", 3, () -> x.reservedOf(0));
        Check.due("on hand", 30, () -> x.quantity(0));
        Check.impossible("twice", () -> x.cancel(0));
        x.ship(1);
        Check.impossible("a shipped one", () -> x.cancel(1));
        Check.due("nothing freed by that", 27, () -> x.availableOn(0, 4));
    }

    private static void refill() {
        BatchWarehouse x = Check.loaded("warehouse;product a 1;product b 1;batch a 10 1 1;batch b 50 50 1;");
        Check.outside("none yet", () -> x.refill(0));
        x.reserve(0, 8, 1);
        x.reserve(0, 2, 0);
        Check.outside("-1", () -> x.refill(-1));
        Check.outside("2", () -> x.refill(2));
        Check.due("nothing missing", 0, () -> x.refill(0));
        x.passDays(2);
        x.writeOffExpired();
        Check.due("no stock", 0, () -> x.refill(0));
        x.receive(0, 3, 1, 1);
        Check.due("not from an expired batch", 0, () -> x.refill(0));
        x.receive(0, 3, 2, 1);
        x.receive(0, 4, 9, 1);
        x.receive(0, 4, 5, 1);
        Check.due("all that is missing", 8, () -> x.refill(0));
        Check.due("first expired first", 3, () -> x.allocation(0, 3));
        Check.due("then the next", 4, () -> x.allocation(0, 5));
        Check.due("then the last", 1, () -> x.allocation(0, 4));
        Check.due("nothing missing now", 0, () -> x.missing(0));
        Check.due("the other one", 2, () -> x.refill(1));
        Check.due("is open", 0, () -> x.missing(1));
        x.cancel(1);
        Check.impossible("a cancelled one", () -> x.refill(1));
        BatchWarehouse y = Check.loaded("warehouse;product a 1;batch a 9 20 1;");
        y.reserve(0, 9, 20);
        y.takeStock(0, 9);
        y.receive(0, 5, 19, 1);
        y.passDays(3);
        Check.due("nothing missing", 0, () -> y.refill(0));
        BatchWarehouse z = Check.loaded("warehouse;product a 1;batch a 9 3 1;batch a 9 30 1;");
        z.reserve(0, 12, 3);
        z.passDays(4);
        z.writeOffExpired();
        z.receive(0, 2, 4, 1);
        Check.due("part of what is missing", 8, () -> z.refill(0));
        Check.due("the rest is missing", 1, () -> z.missing(0));
        Check.due("added to the old allocation", 9, () -> z.allocation(0, 1));
    }

    private static void takeStock() {
        BatchWarehouse x = new BatchWarehouse();
        Check.outside("batch 4", () -> x.takeStock(4, -1));
        Check.outside("batch -1", () -> x.takeStock(-1, 1));
        Check.unfit("-1", () -> x.takeStock(0, -1));
        Check.unfit("1000", () -> x.takeStock(0, 1000));
        Check.due("more", 969, () -> x.takeStock(0, 999));
        Check.due("less", -499, () -> x.takeStock(0, 500));
        Check.due("the same", 0, () -> x.takeStock(0, 500));
        Check.due("none", -500, () -> x.takeStock(0, 0));
        Check.due("adjustment", -30, () -> x.adjustment(0));
        Check.due("on hand", 20, () -> x.onHand(0));
        x.reserve(0, 6, 0);
        Check.impossible("less than is reserved", () -> x.takeStock(1, 5));
        Check.due("just what is reserved", -14, () -> x.takeStock(1, 6));
        x.passDays(9);
        x.writeOffExpired();
        Check.due("after a write-off", 3, () -> x.takeStock(1, 3));
        Check.due("on hand again", 3, () -> x.quantity(1));
        Check.due("consistent", 0, x::inconsistencies);
    }

    private static void writeOffExpired() {
        BatchWarehouse x = new BatchWarehouse();
        Check.due("nothing", 0, x::writeOffExpired);
        x.reserve(0, 35, 0);
        x.passDays(3);
        Check.due("nothing on the last day", 0, x::writeOffExpired);
        x.passDays(3);
        x.reserve(1, 5, 6);
        Check.due("two batches", 50, x::writeOffExpired);
        Check.due("quantity", 0, () -> x.quantity(0));
        Check.due("quantity", 0, () -> x.quantity(1));
        Check.due("reserved", 0, () -> x.reserved(0));
        Check.due("missing", 35, () -> x.missing(0));
        Check.due("another reservation", 0, () -> x.missing(1));
        Check.due("again", 0, x::writeOffExpired);
        x.passDays(4);
        x.receive(1, 7, 1, 1);
        Check.due("of all products", 31, x::writeOffExpired);
        Check.due("account of eggs", 24, () -> x.writtenOffUnits(2));
        Check.due("account of rice", 7, () -> x.writtenOffUnits(1));
    }

    private static void passDays() {
        BatchWarehouse x = new BatchWarehouse();
        Check.unfit("0", () -> x.passDays(0));
        Check.unfit("-1", () -> x.passDays(-1));
        Check.unfit("1000", () -> x.passDays(1000));
        Check.unfit("the greatest", () -> x.passDays(Integer.MAX_VALUE));
        Check.due("none expires", 0, () -> x.passDays(3));
        Check.due("one", 1, () -> x.passDays(1));
        x.issue(0, 30);
        Check.due("not an empty one", 0, () -> x.passDays(2));
        Check.due("eggs, and no batch twice", 1, () -> x.passDays(100));
        x.receive(2, 5, 3, 1);
        Check.due("not one that was expired already", 0, () -> x.passDays(1));
        Check.due("rice", 1, () -> x.passDays(999));
        for (int i = 0; i < 8; i++) {
            x.passDays(999);
        }
        Check.due("day", 9098, x::day);
        Check.impossible("beyond day 9999", () -> x.passDays(902));
        Check.unfit("out of range comes first", () -> x.passDays(1000));
        Check.due("the last day", 0, () -> x.passDays(901));
        Check.due("day 9999", 9999, x::day);
        Check.impossible("one more", () -> x.passDays(1));
        x.receive(2, 5, 9999, 1);
        Check.due("a reservation for the last day", 0, () -> x.reserve(2, 5, 9999));
    }
}
