/** The edges of promises 38 to 44, each with the sentence that names it. */
public final class AccountsEdgesTest {
    public static void main(String[] args) throws Exception {
        receivedUnits();
        deliveredUnits();
        writtenOffUnits();
        adjustment();
        meanCost();
        wasteShare();
        inconsistencies();
        Edges.end("AccountsEdgesTest");
    }

    private static void receivedUnits() throws Exception {
        Edges.section("Promise 38");
        Edges.product((x, v) -> x.receivedUnits(v));
        Edges.edge("Returns the number of units.", () -> {
            Check.due("no batch", 0, () -> Scene.bare().receivedUnits(0));
            Check.due("the greatest", 19980, () -> Scene.plenty().receivedUnits(0));
            BatchWarehouse x = Scene.bare();
            x.receive(0, 1, 0, 1);
            x.receive(0, 999, 9999, 1);
            Check.due("the least and the greatest receipt", 1000, () -> x.receivedUnits(0));
            x.takeStock(0, 500);
            x.issue(0, 600);
            x.passDays(999);
            x.writeOffExpired();
            Check.due("only receipts count", 1000, () -> x.receivedUnits(0));
            Check.unfit("a refused receipt", () -> x.receive(0, 1000, 0, 1));
            Check.due("does not count", 1000, () -> x.receivedUnits(0));
        });
    }

    private static void deliveredUnits() throws Exception {
        Edges.section("Promise 39");
        Edges.product((x, v) -> x.deliveredUnits(v));
        Edges.edge("Returns the issued units plus the shipped units.", () -> {
            BatchWarehouse x = Scene.plenty();
            Check.due("none", 0, () -> x.deliveredUnits(0));
            x.issue(0, 1);
            Check.due("one", 1, () -> x.deliveredUnits(0));
            x.reserve(0, 9999, 99);
            x.reserve(0, 9000, 99);
            Check.due("reserved units do not count", 1, () -> x.deliveredUnits(0));
            x.ship(0);
            Check.due("shipped", 10000, () -> x.deliveredUnits(0));
            x.cancel(1);
            Check.due("cancelled", 10000, () -> x.deliveredUnits(0));
            x.issue(0, 9980);
            Check.due("all", 19980, () -> x.deliveredUnits(0));
            Check.impossible("a refused issue", () -> x.issue(0, 1));
            Check.impossible("a refused shipment", () -> x.ship(0));
            Check.due("do not count", 19980, () -> x.deliveredUnits(0));
        });
    }

    private static void writtenOffUnits() throws Exception {
        Edges.section("Promise 40");
        Edges.product((x, v) -> x.writtenOffUnits(v));
        Edges.edge("Returns the number of units.", () -> {
            BatchWarehouse x = Scene.plenty();
            x.writeOffExpired();
            Check.due("none", 0, () -> x.writtenOffUnits(0));
            x.issue(0, 1);
            x.reserve(0, 500, 99);
            x.passDays(99);
            x.writeOffExpired();
            Check.due("none on the last day", 0, () -> x.writtenOffUnits(0));
            x.passDays(1);
            Check.due("expired is not written off", 0, () -> x.writtenOffUnits(0));
            x.writeOffExpired();
            Check.due("all, reserved or not", 19979, () -> x.writtenOffUnits(0));
            x.writeOffExpired();
            Check.due("once", 19979, () -> x.writtenOffUnits(0));
            x.takeStock(0, 999);
            x.writeOffExpired();
            Check.due("found and written off", 20978, () -> x.writtenOffUnits(0));
        });
    }

    private static void adjustment() throws Exception {
        Edges.section("Promise 41");
        Edges.product((x, v) -> x.adjustment(v));
        Edges.edge("Returns the adjustment; it can be negative.", () -> {
            BatchWarehouse x = Scene.plenty();
            Check.due("none", 0, () -> x.adjustment(0));
            x.takeStock(0, 999);
            Check.due("no difference", 0, () -> x.adjustment(0));
            x.takeStock(0, 998);
            Check.due("one less", -1, () -> x.adjustment(0));
            for (int i = 0; i < 20; i++) {
                x.takeStock(i, 0);
            }
            Check.due("all are gone", -19980, () -> x.adjustment(0));
            for (int i = 0; i < 20; i++) {
                x.takeStock(i, 999);
            }
            Check.due("all are found again", 0, () -> x.adjustment(0));
            x.issue(0, 999);
            x.takeStock(0, 999);
            Check.due("above 0", 999, () -> x.adjustment(0));
            Check.impossible("a refused stock take", () -> {
                x.reserve(0, 10, 0);
                return x.takeStock(0, 9);
            });
            Check.due("does not count", 999, () -> x.adjustment(0));
        });
    }

    private static void meanCost() throws Exception {
        Edges.section("Promise 42");
        Edges.product((x, v) -> x.meanCost(v));
        Edges.edge("Returns stockValue() divided by onHand(), both converted to double; 0.0 if onHand() is 0.", () -> {
            Check.due("no batch", 0.0, () -> Scene.bare().meanCost(0));
            Check.due("the greatest", 999.0, () -> Scene.plenty().meanCost(0));
            BatchWarehouse x = Check.loaded("warehouse;product z 1;batch z 1 1 1;batch z 2 9 2;");
            Check.due("no whole number", 5.0 / 3.0, () -> x.meanCost(0));
            x.passDays(2);
            x.reserve(0, 2, 2);
            Check.due("expired or reserved or not", 5.0 / 3.0, () -> x.meanCost(0));
            x.writeOffExpired();
            Check.due("empty batches do not count", 2.0, () -> x.meanCost(0));
            x.ship(0);
            Check.due("only empty batches", 0.0, () -> x.meanCost(0));
            BatchWarehouse full = Check.loaded("warehouse;product z 1;batch z 1 1 1;" + "batch z 999 1 999;".repeat(19));
            Check.due("many units", 18962020.0 / 18982.0, () -> full.meanCost(0));
        });
    }

    private static void wasteShare() throws Exception {
        Edges.section("Promise 43");
        Edges.product((x, v) -> x.wasteShare(v));
        Edges.edge("Returns writtenOffUnits() divided by receivedUnits(), both converted to float; 0.0f if receivedUnits() is 0.", () -> {
            Check.due("nothing received", 0.0f, () -> Scene.bare().wasteShare(0));
            Check.due("nothing written off", 0.0f, () -> Scene.plenty().wasteShare(0));
            BatchWarehouse x = Check.loaded("warehouse;product z 1;batch z 1 1 1;batch z 2 9 2;");
            x.passDays(2);
            x.writeOffExpired();
            Check.due("a third", 1.0f / 3.0f, () -> x.wasteShare(0));
            x.passDays(8);
            x.writeOffExpired();
            Check.due("all", 1.0f, () -> x.wasteShare(0));
            x.takeStock(0, 999);
            x.writeOffExpired();
            Check.due("more than was received", 1002.0f / 3.0f, () -> x.wasteShare(0));
            BatchWarehouse full = Scene.plenty();
            full.issue(0, 7);
            full.passDays(100);
            full.writeOffExpired();
            Check.due("many units", 19973.0f / 19980.0f, () -> full.wasteShare(0));
        });
    }

    private static void inconsistencies() throws Exception {
        Edges.section("Promise 44");
        Edges.edge("Returns the number of products whose on-hand quantity differs from what the accounts tell, plus the number of batches whose"
            + " reserved quantity exceeds the on-hand quantity; always 0.", () -> {
                Scene.Maker[] scenes = {Scene::bare, Scene::fresh, Scene::one, Scene::eight, Scene::twentyBatches, Scene::plenty,
                    Scene::tenReservations, Scene::lastDay, Scene::busy};
                for (int i = 0; i < scenes.length; i++) {
                    Scene.Maker scene = scenes[i];
                    Check.due("scene " + i, 0, () -> scene.make().inconsistencies());
                    BatchWarehouse x = scene.make();
                    x.writeOffExpired();
                    Check.outcome(() -> x.takeStock(0, 0));
                    Check.outcome(() -> x.takeStock(0, 999));
                    Check.outcome(() -> x.ship(0));
                    Check.outcome(() -> x.refill(0));
                    Check.due("scene " + i + " after some calls", 0, x::inconsistencies);
                    Check.outcome(x::undo);
                    Check.due("scene " + i + " after undo", 0, x::inconsistencies);
                    Check.outcome(() -> x.restore(0));
                    Check.due("scene " + i + " after restore", 0, x::inconsistencies);
                }
            });
    }
}
