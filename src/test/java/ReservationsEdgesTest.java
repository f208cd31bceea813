/** The edges of promises 30 to 37, each with the sentence that names it. */
public final class ReservationsEdgesTest {
    public static void main(String[] args) throws Exception {
        reservationCount();
        reservedProduct();
        reservedQuantity();
        isOpen();
        missing();
        allocation();
        whyNotShipped();
        endangeredReservations();
        Edges.end("ReservationsEdgesTest");
    }

    /** Five units on day 2 and five on day 4; eight are reserved for day 1. */
    private static BatchWarehouse eightOfTen() {
        BatchWarehouse x = Check.loaded("warehouse;product z 1;batch z 5 4 1;batch z 5 2 1;");
        x.reserve(0, 8, 1);
        return x;
    }

    private static BatchWarehouse eightOfTen(int day) {
        BatchWarehouse x = eightOfTen();
        x.passDays(day);
        return x;
    }

    private static void reservationCount() throws Exception {
        Edges.section("Promise 30");
        Edges.edge("Returns 0 to 10.", () -> {
            BatchWarehouse x = Scene.fresh();
            Check.due("0", 0, x::reservationCount);
            for (int count = 1; count <= 10; count++) {
                x.reserve(1, 1, 0);
                Check.due("after a reservation", count, x::reservationCount);
            }
            Check.impossible("an 11th", () -> x.reserve(1, 1, 0));
            Check.due("10 still", 10, x::reservationCount);
            x.undo();
            Check.due("9 after undo", 9, x::reservationCount);
            x.ship(0);
            x.cancel(8);
            Check.due("closed ones count", 9, x::reservationCount);
        });
    }

    private static void reservedProduct() throws Exception {
        Edges.section("Promise 31");
        Edges.reservation((x, v) -> x.reservedProduct(v));
        Edges.edge("Returns the number of the product.", () -> {
            BatchWarehouse x = Scene.eight();
            for (int i = 0; i < 8; i++) {
                int number = i;
                Check.due("of " + i, number, () -> x.reservedProduct(number));
            }
            x.cancel(7);
            Check.due("of a cancelled one", 7, () -> x.reservedProduct(7));
            x.ship(6);
            Check.due("of a shipped one", 6, () -> x.reservedProduct(6));
        });
    }

    private static void reservedQuantity() throws Exception {
        Edges.section("Promise 32");
        Edges.reservation((x, v) -> x.reservedQuantity(v));
        Edges.edge("Returns the quantity.", () -> {
            BatchWarehouse x = Scene.plenty();
            x.reserve(0, 1, 99);
            x.reserve(0, 9999, 99);
            Check.due("1", 1, () -> x.reservedQuantity(0));
            Check.due("9999", 9999, () -> x.reservedQuantity(1));
            x.ship(0);
            Check.due("of a shipped one", 1, () -> x.reservedQuantity(0));
            x.passDays(100);
            x.writeOffExpired();
            Check.due("of one that misses all", 9999, () -> x.reservedQuantity(1));
            x.cancel(1);
            Check.due("of a cancelled one", 9999, () -> x.reservedQuantity(1));
        });
    }

    private static void isOpen() throws Exception {
        Edges.section("Promise 33");
        Edges.reservation((x, v) -> x.isOpen(v));
        Edges.edge("Returns whether it is open.", () -> {
            BatchWarehouse x = Scene.tenReservations();
            Check.due("made", true, () -> x.isOpen(0));
            x.ship(0);
            Check.due("shipped", false, () -> x.isOpen(0));
            x.undo();
            Check.due("undone", true, () -> x.isOpen(0));
            x.cancel(9);
            Check.due("cancelled", false, () -> x.isOpen(9));
            Check.due("another one", true, () -> x.isOpen(8));
            x.passDays(999);
            x.writeOffExpired();
            Check.due("without any unit", true, () -> x.isOpen(8));
        });
    }

    private static void missing() throws Exception {
        Edges.section("Promise 34");
        Edges.reservation((x, v) -> x.missing(v));
        Edges.edge("Returns the missing quantity.", () -> {
            Check.due("none", 0, () -> eightOfTen().missing(0));
            Check.due("none when a batch has expired", 0, () -> eightOfTen(5).missing(0));
            BatchWarehouse x = eightOfTen(3);
            x.writeOffExpired();
            Check.due("a batch is written off", 5, () -> x.missing(0));
            x.refill(0);
            Check.due("two are refilled", 3, () -> x.missing(0));
            x.passDays(2);
            x.writeOffExpired();
            Check.due("all of it", 8, () -> x.missing(0));
            x.receive(0, 8, 5, 1);
            x.refill(0);
            Check.due("refilled", 0, () -> x.missing(0));
            BatchWarehouse y = eightOfTen(3);
            y.writeOffExpired();
            y.cancel(0);
            Check.due("0 when cancelled", 0, () -> y.missing(0));
            BatchWarehouse z = eightOfTen();
            z.ship(0);
            Check.due("0 when shipped", 0, () -> z.missing(0));
        });
    }

    private static void allocation() throws Exception {
        Edges.section("Promise 35");
        Edges.edge("`reservation`: number of a reservation", () -> {
            Edges.accepts(Scene::one, (x, v) -> x.allocation(v, 0), 0);
            Edges.accepts(Scene::tenReservations, (x, v) -> x.allocation(v, 3), 0, 9);
        });
        Edges.edge("`batch`: number of a batch", () -> {
            Edges.accepts(Scene::one, (x, v) -> x.allocation(0, v), 0);
            Edges.accepts(Scene::tenReservations, (x, v) -> x.allocation(9, v), 0, 3);
        });
        Edges.edge("Throws `IndexOutOfBoundsException` if the reservation or the batch does not exist", () -> {
            Edges.reservationOutside((x, v) -> x.allocation(v, 0));
            Edges.outside(Scene::busy, (x, v) -> x.allocation(v, -1), -1, 4);
            Edges.outside(Scene::busy, (x, v) -> x.allocation(3, v), -1, 5, 19, 20);
            Edges.outside(Scene::busy, (x, v) -> x.allocation(3, v), Edges.FAR);
            Edges.outside(Scene::one, (x, v) -> x.allocation(0, v), -1, 1, 20);
            Edges.outside(Scene::tenReservations, (x, v) -> x.allocation(9, v), -1, 4, 19, 20);
        });
        Edges.edge("Returns the number of units; for a reservation that is not open, the number of units that it had when it was shipped or"
            + " cancelled.", () -> {
                BatchWarehouse x = eightOfTen();
                x.reserve(0, 2, 0);
                Check.due("all of a batch", 5, () -> x.allocation(0, 1));
                Check.due("part of a batch", 3, () -> x.allocation(0, 0));
                Check.due("none of a batch", 0, () -> x.allocation(1, 1));
                Check.due("the rest of a batch", 2, () -> x.allocation(1, 0));
                x.ship(0);
                x.cancel(1);
                x.passDays(5);
                x.writeOffExpired();
                x.takeStock(0, 0);
                Check.due("shipped", 5, () -> x.allocation(0, 1));
                Check.due("shipped", 3, () -> x.allocation(0, 0));
                Check.due("cancelled", 0, () -> x.allocation(1, 1));
                Check.due("cancelled", 2, () -> x.allocation(1, 0));
                x.receive(0, 9, 9, 9);
                Check.due("to a later batch", 0, () -> x.allocation(1, 2));
                BatchWarehouse y = eightOfTen(3);
                y.writeOffExpired();
                y.cancel(0);
                Check.due("what it lost before, it had not", 0, () -> y.allocation(0, 1));
                Check.due("what was left", 3, () -> y.allocation(0, 0));
                BatchWarehouse full = Scene.plenty();
                full.reserve(0, 9999, 99);
                Check.due("a whole batch of 999", 999, () -> full.allocation(0, 9));
                Check.due("9 units of the eleventh", 9, () -> full.allocation(0, 10));
                Check.due("the 20th", 0, () -> full.allocation(0, 19));
            });
    }

    private static void whyNotShipped() throws Exception {
        Edges.section("Promise 36");
        Edges.reservation((x, v) -> x.whyNotShipped(v));
        Edges.edge("Returns the first reason that applies: 1 if it is not open, 2 if units are missing, 3 if one of its allocations is to an"
            + " expired batch; 0 if it can be shipped.", () -> {
                Check.due("0 before its day", 0, () -> eightOfTen().whyNotShipped(0));
                Check.due("0 on the last day of a batch", 0, () -> eightOfTen(2).whyNotShipped(0));
                Check.due("3 on the next day", 3, () -> eightOfTen(3).whyNotShipped(0));
                Check.due("3 when all batches have expired", 3, () -> eightOfTen(5).whyNotShipped(0));
                BatchWarehouse x = eightOfTen(3);
                x.writeOffExpired();
                Check.due("2 when units are missing", 2, () -> x.whyNotShipped(0));
                x.passDays(2);
                Check.due("2 comes before 3", 2, () -> x.whyNotShipped(0));
                x.cancel(0);
                Check.due("1 comes before 2 and 3", 1, () -> x.whyNotShipped(0));
                BatchWarehouse y = eightOfTen(2);
                y.ship(0);
                Check.due("1 when shipped", 1, () -> y.whyNotShipped(0));
                y.passDays(9);
                Check.due("1 later", 1, () -> y.whyNotShipped(0));
                BatchWarehouse one = Check.loaded("warehouse;product z 1;batch z 5 4 1;batch z 1 2 1;");
                one.reserve(0, 6, 0);
                one.passDays(3);
                Check.due("3 for one unit of six", 3, () -> one.whyNotShipped(0));
                one.writeOffExpired();
                Check.due("2 for one unit of six", 2, () -> one.whyNotShipped(0));
                one.receive(0, 1, 3, 1);
                one.refill(0);
                Check.due("0 again", 0, () -> one.whyNotShipped(0));
                Check.due("0 on day 9999", 0, () -> {
                    BatchWarehouse z = Scene.lastDay();
                    z.reserve(0, 9, 9999);
                    return z.whyNotShipped(0);
                });
            });
    }

    private static void endangeredReservations() throws Exception {
        Edges.section("Promise 37");
        Edges.edge("Returns the number of open reservations with an allocation to a batch whose expiry day is less than the shipping day or less"
            + " than the current day.", () -> {
                Check.due("no reservation", 0, () -> Scene.fresh().endangeredReservations());
                Check.due("the batch lasts", 0, () -> eightOfTen().endangeredReservations());
                Check.due("until its last day", 0, () -> eightOfTen(2).endangeredReservations());
                Check.due("one of its batches is expired", 1, () -> eightOfTen(3).endangeredReservations());
                Check.due("both count once", 1, () -> eightOfTen(5).endangeredReservations());
                BatchWarehouse x = eightOfTen(3);
                x.writeOffExpired();
                Check.due("no allocation to it any more", 0, x::endangeredReservations);
                BatchWarehouse y = eightOfTen(3);
                y.cancel(0);
                Check.due("cancelled", 0, y::endangeredReservations);
                BatchWarehouse z = eightOfTen();
                z.ship(0);
                z.passDays(9);
                Check.due("shipped", 0, z::endangeredReservations);
                BatchWarehouse ten = Scene.tenReservations();
                ten.passDays(200);
                Check.due("ten on the last day", 0, ten::endangeredReservations);
                ten.passDays(1);
                Check.due("all ten", 10, ten::endangeredReservations);
                ten.cancel(3);
                Check.due("nine", 9, ten::endangeredReservations);
                // A shipping day that is the expiry day is not a greater one.
                BatchWarehouse same = Check.loaded("warehouse;product z 1;batch z 5 4 1;");
                same.reserve(0, 5, 4);
                Check.due("the shipping day is the last day", 0, same::endangeredReservations);
            });
        Edges.plain("Counts the open reservations");
    }
}
