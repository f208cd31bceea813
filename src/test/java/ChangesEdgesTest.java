/** The edges of promises 48 to 57, each with the sentence that names it. */
public final class ChangesEdgesTest {
    public static void main(String[] args) throws Exception {
        receive();
        issue();
        reserve();
        ship();
        cancel();
        refill();
        takeStock();
        writeOffExpired();
        passDays();
        runScript();
        Edges.end("ChangesEdgesTest");
    }

    private static void receive() throws Exception {
        Edges.section("Promise 48");
        Edges.product((x, v) -> x.receive(v, 1, 1, 1), (x, v) -> x.receive(v, 0, 1, 1), (x, v) -> x.receive(v, 1, -1, 1000),
            (x, v) -> x.receive(v, 1, 1, 1));
        Edges.edge("`quantity`: 1 to 999", () -> Edges.range(Scene::busy, (x, v) -> x.receive(0, v, 1, 1), 1, 999));
        Edges.edge("`expiry`: expiry day, 0 to 9999; the batch may be expired already", () -> {
            Edges.range(Scene::busy, (x, v) -> x.receive(0, 1, v, 1), 0, 9999);
            BatchWarehouse x = Scene.lastDay();
            Check.due("expired on day 9998", 2, () -> x.receive(0, 5, 9998, 1));
            Check.due("expired", true, () -> x.isExpired(2));
            Check.due("not available", 9, () -> x.availableOn(0, 9999));
            Check.due("good on day 9999", 3, () -> x.receive(0, 5, 9999, 1));
            Check.due("not expired", false, () -> x.isExpired(3));
            Check.due("available", 14, () -> x.availableOn(0, 9999));
        });
        Edges.edge("`cost`: 1 to 999", () -> Edges.range(Scene::busy, (x, v) -> x.receive(0, 1, 1, v), 1, 999));
        Edges.edge("Returns the number of the batch.", () -> {
            BatchWarehouse x = Scene.bare();
            for (int number = 0; number < 20; number++) {
                int batch = number;
                Check.due("batch " + batch, batch, () -> x.receive(0, batch + 1, 9999 - batch, batch + 2));
            }
            for (int number = 0; number < 20; number += 19) {
                int batch = number;
                Check.due("its product", 0, () -> x.productOf(batch));
                Check.due("its quantity", batch + 1, () -> x.quantity(batch));
                Check.due("its reserved quantity", 0, () -> x.reservedOf(batch));
                Check.due("its expiry day", 9999 - batch, () -> x.expiryDay(batch));
                Check.due("its cost", batch + 2, () -> x.unitCost(batch));
            }
            x.undo();
            Check.due("the number of an undone one", 19, () -> x.receive(0, 1, 1, 1));
        });
        Edges.edge("Throws `IllegalArgumentException` if quantity, expiry or cost is out of range", () -> {
            Edges.unfit(Scene::twentyBatches, (x, v) -> x.receive(0, v, 1, 1), 0, 1000, -1);
            Edges.unfit(Scene::twentyBatches, (x, v) -> x.receive(0, 1, v, 1), -1, 10000);
            Edges.unfit(Scene::twentyBatches, (x, v) -> x.receive(0, 1, 1, v), 0, 1000, -1);
            Edges.unfit(Scene::busy, (x, v) -> x.receive(2, 999, 9999, v), Integer.MIN_VALUE, Integer.MAX_VALUE);
        });
        Edges.edge("Throws `IllegalStateException` if there are 20 batches", () -> {
            Edges.impossible(Scene::twentyBatches, (x, v) -> x.receive(0, v, 1, 1), 1, 999);
            Edges.impossible(() -> {
                BatchWarehouse x = Scene.twentyBatches();
                x.passDays(21);
                x.writeOffExpired();
                return x;
            }, (x, v) -> x.receive(0, v, 99, 1), 1);
            Edges.accepts(() -> {
                BatchWarehouse x = Scene.bare();
                Check.script(x, "receive z 1 1 1;".repeat(19));
                return x;
            }, (x, v) -> x.receive(0, v, 1, 1), 1, 999);
        });
    }

    private static void issue() throws Exception {
        Edges.section("Promise 49");
        Edges.product((x, v) -> x.issue(v, 1), (x, v) -> x.issue(v, 0), (x, v) -> x.issue(v, 10000), (x, v) -> x.issue(v, 9999));
        Edges.edge("`quantity`: 1 to 9999", () -> Edges.range(Scene::plenty, (x, v) -> x.issue(0, v), 1, 9999));
        Edges.edge("Returns the sum of the unit costs of the issued units.", () -> {
            Check.due("1 of plenty", 999, () -> Scene.plenty().issue(0, 1));
            Check.due("9999 of plenty", 9999 * 999, () -> Scene.plenty().issue(0, 9999));
            // Batch b has nine units of cost b + 1.
            Check.due("a whole batch", 9, () -> Scene.twentyBatches().issue(0, 9));
            Check.due("and a unit of the next", 11, () -> Scene.twentyBatches().issue(0, 10));
            Check.due("all twenty", 9 * 210, () -> Scene.twentyBatches().issue(0, 180));
            Check.due("all but one unit", 9 * 210 - 20, () -> Scene.twentyBatches().issue(0, 179));
        });
        Edges.edge("Throws `IllegalArgumentException` if quantity is out of range", () -> {
            Edges.unfit(Scene::bare, (x, v) -> x.issue(0, v), 0, -1, 10000);
            Edges.unfit(Scene::plenty, (x, v) -> x.issue(0, v), 0, 10000, Integer.MIN_VALUE, Integer.MAX_VALUE);
        });
        Edges.edge("Throws `IllegalStateException` if the available quantity for the current day is less than quantity", () -> {
            Edges.impossible(Scene::bare, (x, v) -> x.issue(0, v), 1, 9999);
            Edges.accepts(Scene::twentyBatches, (x, v) -> x.issue(0, v), 180);
            Edges.impossible(Scene::twentyBatches, (x, v) -> x.issue(0, v), 181, 9999);
            Scene.Maker reserving = () -> {
                BatchWarehouse x = Scene.fresh();
                x.reserve(0, 20, 0);
                return x;
            };
            Edges.accepts(reserving, (x, v) -> x.issue(0, v), 1, 30);
            Edges.impossible(reserving, (x, v) -> x.issue(0, v), 31, 50);
            Scene.Maker expired = () -> {
                BatchWarehouse x = Scene.fresh();
                x.passDays(4);
                return x;
            };
            Edges.accepts(expired, (x, v) -> x.issue(0, v), 1, 30);
            Edges.impossible(expired, (x, v) -> x.issue(0, v), 31, 50);
            Edges.accepts(Scene::lastDay, (x, v) -> x.issue(0, v), 9);
            Edges.impossible(Scene::lastDay, (x, v) -> x.issue(0, v), 10);
        });
        Edges.edge("they are taken in the issue order for the current day and leave the warehouse", () -> {
            int[] quantities = {1, 8, 9, 10, 17, 18, 19, 179, 180};
            for (int quantity : quantities) {
                BatchWarehouse x = Scene.twentyBatches();
                x.issue(0, quantity);
                for (int b = 0; b < 20; b++) {
                    int batch = b;
                    Check.due("batch " + b + " after " + quantity, Math.max(0, Math.min(9, 9 * (b + 1) - quantity)), () -> x.quantity(batch));
                }
                Check.due("delivered", quantity, () -> x.deliveredUnits(0));
                Check.due("on hand", 180 - quantity, () -> x.onHand(0));
            }
        });
    }

    private static void reserve() throws Exception {
        Edges.section("Promise 50");
        Edges.product((x, v) -> x.reserve(v, 1, 0), (x, v) -> x.reserve(v, 0, 9), (x, v) -> x.reserve(v, 1, 10000),
            (x, v) -> x.reserve(v, 10000, -1), (x, v) -> x.reserve(v, 9999, 9999));
        Edges.edge("`quantity`: 1 to 9999", () -> Edges.range(Scene::plenty, (x, v) -> x.reserve(0, v, 99), 1, 9999));
        Edges.edge("`day`: shipping day, the current day to 9999", () -> {
            Scene.Maker lasting = () -> {
                BatchWarehouse x = Check.loaded("warehouse;product z 1;batch z 9 9999 1;");
                x.passDays(5);
                return x;
            };
            Edges.range(lasting, (x, v) -> x.reserve(0, 9, v), 5, 9999);
            Edges.range(Scene::lastDay, (x, v) -> x.reserve(0, 9, v), 9999, 9999);
            Edges.accepts(Scene::fresh, (x, v) -> x.reserve(0, 9, v), 0);
            Edges.unfit(Scene::fresh, (x, v) -> x.reserve(0, 9, v), -1, 10000);
        });
        Edges.edge("Returns the number of the reservation.", () -> {
            BatchWarehouse x = Scene.fresh();
            for (int number = 0; number < 10; number++) {
                int due = number;
                Check.due("reservation " + due, due, () -> x.reserve(1, 1, due));
            }
            x.undo();
            Check.due("the number of an undone one", 9, () -> x.reserve(0, 1, 0));
            Check.due("its product", 0, () -> x.reservedProduct(9));
        });
        Edges.edge("Throws `IllegalArgumentException` if quantity or day is out of range", () -> {
            Edges.unfit(Scene::tenReservations, (x, v) -> x.reserve(0, v, 0), 0, -1, 10000);
            Edges.unfit(Scene::tenReservations, (x, v) -> x.reserve(0, 1, v), -1, 10000);
            Edges.unfit(Scene::bare, (x, v) -> x.reserve(0, v, 0), 0, 10000);
            Edges.unfit(Scene::busy, (x, v) -> x.reserve(0, 9999, v), 6, 10000, Integer.MIN_VALUE, Integer.MAX_VALUE);
        });
        Edges.edge("Throws `IllegalStateException` if there are 10 reservations, or the available quantity for the shipping day is less than"
            + " quantity", () -> {
                Edges.impossible(Scene::tenReservations, (x, v) -> x.reserve(0, v, 0), 1, 30);
                Edges.impossible(() -> {
                    BatchWarehouse x = Scene.tenReservations();
                    x.ship(0);
                    x.cancel(9);
                    return x;
                }, (x, v) -> x.reserve(0, v, 0), 1);
                Edges.accepts(() -> {
                    BatchWarehouse x = Scene.tenReservations();
                    x.undo();
                    return x;
                }, (x, v) -> x.reserve(0, v, 0), 1, 50);
                Edges.accepts(Scene::fresh, (x, v) -> x.reserve(0, 50, v), 0, 3);
                Edges.impossible(Scene::fresh, (x, v) -> x.reserve(0, 50, v), 4, 9999);
                Edges.accepts(Scene::fresh, (x, v) -> x.reserve(0, 30, v), 4, 5);
                Edges.impossible(Scene::fresh, (x, v) -> x.reserve(0, 31, v), 4, 5);
                Edges.impossible(Scene::fresh, (x, v) -> x.reserve(0, 1, v), 6, 9999);
                Edges.impossible(Scene::fresh, (x, v) -> x.reserve(0, v, 0), 51, 9999);
                Edges.impossible(Scene::bare, (x, v) -> x.reserve(0, v, 0), 1, 9999);
                Edges.accepts(Scene::one, (x, v) -> x.reserve(0, v, 9), 8);
                Edges.impossible(Scene::one, (x, v) -> x.reserve(0, v, 9), 9);
                Edges.impossible(Scene::plenty, (x, v) -> x.reserve(0, 1, v), 100);
            });
    }

    /** Reservation 0 holds 5 units of batch 1 and 3 of batch 0, of costs 10 and 1. */
    private static BatchWarehouse eightOfTen(int day) {
        BatchWarehouse x = Check.loaded("warehouse;product z 1;batch z 5 4 1;batch z 5 2 10;");
        x.reserve(0, 8, 1);
        if (day > 0) {
            x.passDays(day);
        }
        return x;
    }

    private static BatchWarehouse withoutExpired(int day) {
        BatchWarehouse x = eightOfTen(day);
        x.writeOffExpired();
        return x;
    }

    private static BatchWarehouse cancelled() {
        BatchWarehouse x = eightOfTen(0);
        x.cancel(0);
        return x;
    }

    private static BatchWarehouse shipped() {
        BatchWarehouse x = eightOfTen(0);
        x.ship(0);
        return x;
    }

    private static void ship() throws Exception {
        Edges.section("Promise 51");
        Edges.reservation((x, v) -> x.ship(v));
        Edges.edge("Ships a reservation, whatever its shipping day is: its allocated units leave the warehouse.", () -> {
            for (int day = 0; day <= 2; day++) {
                BatchWarehouse x = eightOfTen(day);
                Check.due("shipping day 1 on day " + day, 53, () -> x.ship(0));
                Check.due("the whole batch", 0, () -> x.quantity(1));
                Check.due("part of the other", 2, () -> x.quantity(0));
                Check.due("nothing reserved", 0, () -> x.reserved(0));
                Check.due("delivered", 8, () -> x.deliveredUnits(0));
            }
        });
        Edges.edge("Returns the sum of the unit costs of the shipped units.", () -> {
            Check.due("one unit", 9, () -> Scene.one().ship(0));
            BatchWarehouse x = Scene.plenty();
            x.reserve(0, 9999, 99);
            Check.due("9999 units", 9999 * 999, () -> x.ship(0));
        });
        Edges.edge("Throws `IllegalStateException` if whyNotShipped() does not return 0", () -> {
            Edges.impossible(ChangesEdgesTest::shipped, (x, v) -> x.ship(v), 0);
            Edges.impossible(ChangesEdgesTest::cancelled, (x, v) -> x.ship(v), 0);
            Edges.impossible(() -> eightOfTen(3), (x, v) -> x.ship(v), 0);
            Edges.impossible(() -> eightOfTen(5), (x, v) -> x.ship(v), 0);
            Edges.impossible(() -> withoutExpired(3), (x, v) -> x.ship(v), 0);
            Edges.impossible(() -> withoutExpired(5), (x, v) -> x.ship(v), 0);
            Edges.impossible(Scene::busy, (x, v) -> x.ship(v), 0, 1, 2, 3);
            Edges.accepts(() -> eightOfTen(2), (x, v) -> x.ship(v), 0);
        });
    }

    private static void cancel() throws Exception {
        Edges.section("Promise 52");
        Edges.reservation((x, v) -> x.cancel(v));
        Edges.edge("Cancels a reservation: its allocated units become free.", () -> {
            BatchWarehouse x = eightOfTen(0);
            Check.due("free before", 2, () -> x.availableOn(0, 0));
            x.cancel(0);
            Check.due("free", 10, () -> x.availableOn(0, 0));
            Check.due("on hand", 10, () -> x.onHand(0));
            Check.due("nothing delivered", 0, () -> x.deliveredUnits(0));
            Check.due("all can be issued", 55, () -> x.issue(0, 10));
        });
        Edges.edge("Returns the number of units that become free.", () -> {
            Check.due("all", 8, () -> eightOfTen(0).cancel(0));
            Check.due("those of an expired batch too", 8, () -> eightOfTen(3).cancel(0));
            Check.due("not those that were written off", 3, () -> withoutExpired(3).cancel(0));
            Check.due("none is left", 0, () -> withoutExpired(5).cancel(0));
            BatchWarehouse x = Scene.plenty();
            x.reserve(0, 9999, 99);
            Check.due("9999", 9999, () -> x.cancel(0));
        });
        Edges.edge("Throws `IllegalStateException` if it is not open", () -> {
            Edges.impossible(ChangesEdgesTest::shipped, (x, v) -> x.cancel(v), 0);
            Edges.impossible(ChangesEdgesTest::cancelled, (x, v) -> x.cancel(v), 0);
            Edges.impossible(Scene::busy, (x, v) -> x.cancel(v), 1, 2);
            Edges.accepts(Scene::busy, (x, v) -> x.cancel(v), 0, 3);
        });
    }

    private static BatchWarehouse missingFive(String... batches) {
        BatchWarehouse x = withoutExpired(3);
        x.cancel(x.reserve(0, 2, 3));
        x.issue(0, 2);
        for (String batch : batches) {
            Check.script(x, "receive z " + batch + " 1;");
        }
        return x;
    }

    private static void refill() throws Exception {
        Edges.section("Promise 53");
        Edges.reservation((x, v) -> x.refill(v));
        Edges.edge("as many missing units as possible are taken in the issue order for the greater one of its shipping day and the current day,"
            + " and allocated", () -> {
                BatchWarehouse x = missingFive("4 9", "4 3", "9 2");
                Check.due("refilled", 5, () -> x.refill(0));
                Check.due("not from the expired batch", 0, () -> x.allocation(0, 4));
                Check.due("from the one that expires first", 4, () -> x.allocation(0, 3));
                Check.due("then from the next", 1, () -> x.allocation(0, 2));
                Check.due("what it had", 3, () -> x.allocation(0, 0));
                BatchWarehouse y = Check.loaded("warehouse;product z 1;batch z 5 6 1;");
                y.reserve(0, 5, 6);
                Check.script(y, "days 7;writeoff;");
                y.undo();
                y.receive(0, 9, 5, 1);
                Check.due("nothing is missing", 0, () -> y.refill(0));
                // The shipping day is the greater one only while a batch for it is lost; that takes a later day.
                Check.script(y, "days 7;writeoff;receive z 2 6 1;receive z 3 7 1;receive z 4 8 1;");
                Check.due("for the current day", 5, () -> y.refill(0));
                Check.due("expired yesterday", 0, () -> y.allocation(0, 2));
                Check.due("expires today", 3, () -> y.allocation(0, 3));
                Check.due("expires tomorrow", 2, () -> y.allocation(0, 4));
            });
        Edges.edge("Returns the number of units that were allocated.", () -> {
            Check.due("nothing is missing", 0, () -> eightOfTen(0).refill(0));
            Check.due("nothing is there", 0, () -> missingFive().refill(0));
            Check.due("only expired units", 0, () -> missingFive("9 2").refill(0));
            Check.due("one unit", 1, () -> missingFive("1 3").refill(0));
            Check.due("one too few", 4, () -> missingFive("4 9").refill(0));
            Check.due("just enough", 5, () -> missingFive("5 9").refill(0));
            Check.due("more than enough", 5, () -> missingFive("6 9").refill(0));
            BatchWarehouse x = missingFive("5 9");
            x.reserve(0, 2, 9);
            Check.due("only free units", 3, () -> x.refill(0));
            Check.due("and no more", 0, () -> x.refill(0));
            Check.due("two are missing", 2, () -> x.missing(0));
        });
        Edges.edge("Throws `IllegalStateException` if it is not open", () -> {
            Edges.impossible(ChangesEdgesTest::shipped, (x, v) -> x.refill(v), 0);
            Edges.impossible(ChangesEdgesTest::cancelled, (x, v) -> x.refill(v), 0);
            Edges.impossible(Scene::busy, (x, v) -> x.refill(v), 1, 2);
            Edges.accepts(Scene::busy, (x, v) -> x.refill(v), 0, 3);
        });
    }

    private static void takeStock() throws Exception {
        Edges.section("Promise 54");
        Edges.batch((x, v) -> x.takeStock(v, 9), (x, v) -> x.takeStock(v, -1), (x, v) -> x.takeStock(v, 1000));
        Edges.edge("`counted`: 0 to 999", () -> {
            Edges.range(Scene::fresh, (x, v) -> x.takeStock(0, v), 0, 999);
            Edges.range(Scene::busy, (x, v) -> x.takeStock(1, v), 0, 999);
        });
        Edges.edge("its on-hand quantity becomes the counted quantity, and the difference is added to the adjustment of the product", () -> {
            for (int counted : new int[] {0, 1, 29, 30, 31, 999}) {
                BatchWarehouse x = Scene.fresh();
                x.takeStock(0, counted);
                Check.due("quantity " + counted, counted, () -> x.quantity(0));
                Check.due("adjustment by " + counted, counted - 30, () -> x.adjustment(0));
                Check.due("no other batch", 20, () -> x.quantity(1));
                Check.due("no other product", 0, () -> x.adjustment(1));
                x.takeStock(1, 0);
                Check.due("both differences", counted - 50, () -> x.adjustment(0));
            }
        });
        Edges.edge("Returns the counted quantity minus the previous on-hand quantity.", () -> {
            int[][] due = {{0, -30}, {29, -1}, {30, 0}, {31, 1}, {999, 969}};
            for (int[] each : due) {
                Check.due("counted " + each[0], each[1], () -> Scene.fresh().takeStock(0, each[0]));
            }
            BatchWarehouse x = Scene.plenty();
            Check.due("from 999 to 0", -999, () -> x.takeStock(19, 0));
            Check.due("from 0 to 999", 999, () -> x.takeStock(19, 999));
        });
        Edges.edge("Throws `IllegalArgumentException` if counted is out of range", () -> {
            Edges.unfit(() -> eightOfTen(0), (x, v) -> x.takeStock(1, v), -1, 1000);
            Edges.unfit(Scene::busy, (x, v) -> x.takeStock(0, v), -1, 1000, Integer.MIN_VALUE, Integer.MAX_VALUE);
        });
        Edges.edge("Throws `IllegalStateException` if counted is less than the reserved quantity of the batch", () -> {
            Edges.impossible(() -> eightOfTen(0), (x, v) -> x.takeStock(1, v), 0, 4);
            Edges.accepts(() -> eightOfTen(0), (x, v) -> x.takeStock(1, v), 5, 6);
            Edges.impossible(() -> eightOfTen(0), (x, v) -> x.takeStock(0, v), 0, 2);
            Edges.accepts(() -> eightOfTen(0), (x, v) -> x.takeStock(0, v), 3, 4);
            Edges.impossible(() -> eightOfTen(5), (x, v) -> x.takeStock(0, v), 2);
            Edges.accepts(() -> withoutExpired(5), (x, v) -> x.takeStock(0, v), 0);
            Edges.accepts(ChangesEdgesTest::cancelled, (x, v) -> x.takeStock(1, v), 0, 4);
            Edges.accepts(ChangesEdgesTest::shipped, (x, v) -> x.takeStock(0, v), 0, 2);
        });
    }

    private static void writeOffExpired() throws Exception {
        Edges.section("Promise 55");
        Edges.edge("Returns the number of units that are written off.", () -> {
            Check.due("no batch", 0, () -> Scene.bare().writeOffExpired());
            Check.due("none is expired", 0, () -> Scene.fresh().writeOffExpired());
            Check.due("on their last day", 0, () -> eightOfTen(2).writeOffExpired());
            Check.due("one batch", 5, () -> eightOfTen(3).writeOffExpired());
            Check.due("still one batch", 5, () -> eightOfTen(4).writeOffExpired());
            Check.due("both batches", 10, () -> eightOfTen(5).writeOffExpired());
            Check.due("again", 0, () -> withoutExpired(5).writeOffExpired());
            Check.due("on day 9999", 4, () -> Scene.lastDay().writeOffExpired());
            BatchWarehouse x = Scene.plenty();
            x.passDays(100);
            Check.due("20 full batches", 19980, x::writeOffExpired);
            BatchWarehouse eight = Scene.eight();
            eight.passDays(10);
            Check.due("eight products", 72, eight::writeOffExpired);
            Check.due("the eighth", 9, () -> eight.writtenOffUnits(7));
        });
        Edges.edge("Writes off all expired batches.", () -> {
            BatchWarehouse x = eightOfTen(3);
            x.writeOffExpired();
            Check.due("the expired one", 0, () -> x.quantity(1));
            Check.due("not the other", 5, () -> x.quantity(0));
        });
    }

    private static BatchWarehouse onDay(int day) {
        BatchWarehouse x = new BatchWarehouse();
        for (int left = day; left > 0; left -= 999) {
            x.passDays(Math.min(left, 999));
        }
        return x;
    }

    private static void passDays() throws Exception {
        Edges.section("Promise 56");
        Edges.edge("`days`: 1 to 999", () -> Edges.range(Scene::busy, (x, v) -> x.passDays(v), 1, 999));
        Edges.edge("Returns the number of batches with an on-hand quantity above 0 that became expired.", () -> {
            Check.due("no batch", 0, () -> Scene.bare().passDays(999));
            Check.due("to the last day of the first", 0, () -> Scene.fresh().passDays(3));
            Check.due("behind it", 1, () -> Scene.fresh().passDays(4));
            Check.due("to the last day of the second", 1, () -> Scene.fresh().passDays(5));
            Check.due("behind it", 2, () -> Scene.fresh().passDays(6));
            Check.due("all", 4, () -> Scene.fresh().passDays(999));
            Check.due("all 20", 20, () -> Scene.plenty().passDays(100));
            BatchWarehouse x = Scene.fresh();
            x.passDays(3);
            Check.due("from its last day", 1, () -> x.passDays(1));
            Check.due("not again", 0, () -> x.passDays(1));
            x.takeStock(0, 0);
            Check.due("not an empty one", 0, () -> x.passDays(1));
            x.takeStock(0, 5);
            Check.due("not one that had expired when it was empty", 0, () -> x.passDays(1));
            x.receive(0, 5, 6, 1);
            x.receive(0, 5, 7, 1);
            Check.due("not one that was expired when it was received", 1, () -> x.passDays(1));
            BatchWarehouse zero = Check.loaded("warehouse;product z 1;batch z 1 0 1;");
            Check.due("expiry day 0", 1, () -> zero.passDays(1));
            BatchWarehouse late = onDay(9998);
            late.receive(0, 1, 9998, 1);
            late.receive(0, 1, 9999, 1);
            Check.due("expiry days 9998 and 9999", 1, () -> late.passDays(1));
        });
        Edges.edge("Throws `IllegalArgumentException` if days is out of range", () -> {
            Edges.unfit(Scene::fresh, (x, v) -> x.passDays(v), 0, -1, 1000);
            Edges.unfit(Scene::lastDay, (x, v) -> x.passDays(v), 0, -1, 1000, Integer.MIN_VALUE, Integer.MAX_VALUE);
        });
        Edges.edge("Throws `IllegalStateException` if the current day would exceed 9999", () -> {
            Edges.impossible(Scene::lastDay, (x, v) -> x.passDays(v), 1, 999);
            Edges.accepts(() -> onDay(9998), (x, v) -> x.passDays(v), 1);
            Edges.impossible(() -> onDay(9998), (x, v) -> x.passDays(v), 2, 999);
            Edges.accepts(() -> onDay(9000), (x, v) -> x.passDays(v), 998, 999);
            Edges.impossible(() -> onDay(9001), (x, v) -> x.passDays(v), 999);
            Edges.accepts(() -> onDay(9001), (x, v) -> x.passDays(v), 998);
        });
    }

    private static BatchWarehouse asking(String text) {
        BatchWarehouse x = Scene.busy();
        x.truncate(0);
        Check.put(x, text);
        return x;
    }

    private static void runScript() throws Exception {
        Edges.section("Promise 57");
        Edges.edge("Parses the input buffer as a script and empties the buffer, also if the text has an error.", () -> {
            for (String text : new String[] {"", " ", "writeoff;", "ship 0;", "ship", "x".repeat(600), "writeoff;" + " ".repeat(591)}) {
                Check.due("length after '" + text + "'", 0, () -> Sight.inputLength(() -> {
                    BatchWarehouse x = asking(text);
                    Check.outcome(x::runScript);
                    return x;
                }));
            }
        });
        Edges.edge("A valid script is executed and counts as a single change, even if no command was executed.", () -> {
            for (String text : new String[] {"", "\n", "ship 1;", "ship 9;writeoff;", "writeoff;", "issue milk 1;issue milk 1;", "writeoff;".repeat(30)}) {
                BatchWarehouse x = Scene.fresh();
                x.issue(0, 5);
                Check.script(x, text);
                Check.due("a single change: '" + text + "'", 1, x::undo);
                Check.due("all of it is undone", 45, () -> x.onHand(0));
                Check.due("the change before", 0, x::undo);
            }
            BatchWarehouse x = Scene.fresh();
            x.passDays(1);
            for (int i = 0; i < 6; i++) {
                Check.script(x, "");
            }
            for (int left = 5; left >= 0; left--) {
                Check.due("six empty scripts", left, x::undo);
            }
            Check.impossible("the days before them cannot be undone", x::undo);
            Check.due("day", 1, x::day);
        });
        Edges.edge("Returns the number of executed commands.", () -> {
            Check.due("no command", 0, () -> asking("").runScript());
            Check.due("none is executed", 0, () -> asking("ship 9;writeoff;").runScript());
            Check.due("one", 1, () -> asking("writeoff;").runScript());
            Check.due("one of two", 1, () -> asking("writeoff;ship 9;").runScript());
            Check.due("one of three", 1, () -> asking("writeoff;ship 9;writeoff;").runScript());
            Check.due("30", 30, () -> asking("writeoff;".repeat(30)).runScript());
            Check.due("29 of 30", 29, () -> asking("writeoff;".repeat(29) + "ship 9;").runScript());
        });
        Edges.edge("Throws `IllegalArgumentException` if the text has an error; in this case only the buffer, the error code and the error"
            + " position change", () -> {
                for (String text : new String[] {"x", ";", "writeoff", "issue milk 1", "issue milk 1;ship 0;x", "issue bread 1;",
                    "issue milk 1;".repeat(30) + "issue", "days 1;days 10000;", "days 1;\0"}) {
                    Check.unfit("'" + text + "'", () -> asking(text).runScript());
                    Check.sameSight("the state after '" + text + "'", Sight.ofStateAndOutput(Scene::busy), Sight.ofStateAndOutput(() -> {
                        BatchWarehouse x = asking(text);
                        Check.outcome(x::runScript);
                        return x;
                    }));
                }
            });
    }
}
