/**
 * All that can be seen of a warehouse, as one text. Each part is read from a warehouse made anew, so that looking
 * changes nothing that is looked at later and no object is used for more than 512 calls.
 */
final class Sight {
    private final StringBuilder text = new StringBuilder();
    private final Scene.Maker maker;

    private Sight(Scene.Maker maker) {
        this.maker = maker;
    }

    static String ofAll(Scene.Maker maker) {
        return ofStateAndOutput(maker) + ofTexts(maker);
    }

    /** All but the input buffer, the error code and the error position. */
    static String ofStateAndOutput(Scene.Maker maker) {
        Sight sight = new Sight(maker);
        sight.products();
        sight.batches();
        sight.reservations();
        sight.output();
        sight.history();
        sight.slot(0);
        sight.slot(1);
        return sight.text.toString();
    }

    /** The state that undo and saved states concern, without the changes before it. */
    static String ofState(Scene.Maker maker) {
        Sight sight = new Sight(maker);
        sight.products();
        sight.batches();
        sight.reservations();
        return sight.text.toString();
    }

    static String ofTexts(Scene.Maker maker) {
        Sight sight = new Sight(maker);
        sight.errors();
        sight.input();
        return sight.text.toString();
    }

    static int inputLength(Scene.Maker maker) {
        int least = 0;
        int greatest = 600;
        while (least < greatest) {
            int middle = (least + greatest + 1) / 2;
            if (Check.outcome(() -> maker.make().truncate(middle)).equals(middle)) {
                least = middle;
            } else {
                greatest = middle - 1;
            }
        }
        return least;
    }

    private void see(String what, Check.Call call) {
        text.append(what).append(' ').append(Check.outcome(call)).append('\n');
    }

    private void products() {
        BatchWarehouse x = maker.make();
        see("day", x::day);
        see("products", x::productCount);
        for (int i = 0; i < x.productCount(); i++) {
            int p = i;
            see("name", () -> Check.name(x, p));
            see("minimum", () -> x.minimumStock(p));
            see("on hand", () -> x.onHand(p));
            see("reserved", () -> x.reserved(p));
            see("available", () -> x.availableOn(p, x.day()));
            see("expired", () -> x.expired(p));
            see("expiring", () -> x.expiringWithin(p, 99));
            see("value", () -> x.stockValue(p));
            see("reorder", () -> x.reorderQuantity(p));
            see("received", () -> x.receivedUnits(p));
            see("delivered", () -> x.deliveredUnits(p));
            see("written off", () -> x.writtenOffUnits(p));
            see("adjustment", () -> x.adjustment(p));
            see("mean cost", () -> x.meanCost(p));
            see("waste share", () -> x.wasteShare(p));
            see("shortage", () -> x.daysUntilShortage(p, 3));
            see("waste", () -> x.wasteWithDemand(p, 1, 365));
        }
        see("value", x::totalValue);
        see("reorders", x::reorderCount);
        see("inconsistencies", x::inconsistencies);
    }

    private void batches() {
        BatchWarehouse x = maker.make();
        see("batches", x::batchCount);
        for (int i = 0; i < x.batchCount(); i++) {
            int b = i;
            see("product", () -> x.productOf(b));
            see("quantity", () -> x.quantity(b));
            see("reserved", () -> x.reservedOf(b));
            see("expiry", () -> x.expiryDay(b));
            see("cost", () -> x.unitCost(b));
            see("expired", () -> x.isExpired(b));
        }
        for (int p = 0; p < x.productCount(); p++) {
            for (int i = 0; i < x.batchCount() && x.issueOrder(p, i) != BatchWarehouse.NONE; i++) {
                text.append("order ").append(x.issueOrder(p, i)).append('\n');
            }
        }
    }

    private void reservations() {
        BatchWarehouse x = maker.make();
        see("reservations", x::reservationCount);
        see("endangered", x::endangeredReservations);
        int batches = x.batchCount();
        for (int i = 0; i < x.reservationCount(); i++) {
            int r = i;
            see("product", () -> x.reservedProduct(r));
            see("quantity", () -> x.reservedQuantity(r));
            see("open", () -> x.isOpen(r));
            see("missing", () -> x.missing(r));
            see("why not", () -> x.whyNotShipped(r));
            for (int j = 0; j < batches; j++) {
                int b = j;
                see("allocation", () -> x.allocation(r, b));
            }
        }
    }

    private void output() {
        BatchWarehouse x = maker.make();
        text.append("output");
        for (int i = 0; i < 200; i++) {
            int index = i;
            Object got = Check.outcome(() -> x.outputByte(index));
            text.append(' ').append(got);
            if (!(got instanceof Integer)) {
                break;
            }
        }
        text.append('\n');
    }

    private void summary(BatchWarehouse x) {
        see("day", x::day);
        see("batches", x::batchCount);
        see("reservations", x::reservationCount);
        for (int i = 0; i < x.productCount(); i++) {
            int p = i;
            see("on hand", () -> x.onHand(p));
            see("reserved", () -> x.reserved(p));
            see("written off", () -> x.writtenOffUnits(p));
        }
    }

    private void history() {
        BatchWarehouse x = maker.make();
        for (int i = 0; i < 7; i++) {
            see("undo", x::undo);
            summary(x);
        }
    }

    private void slot(int slot) {
        BatchWarehouse x = maker.make();
        see("restore", () -> x.restore(slot));
        summary(x);
    }

    private void errors() {
        BatchWarehouse x = maker.make();
        see("error code", x::errorCode);
        see("error position", x::errorPosition);
    }

    private void input() {
        text.append("input length ").append(inputLength(maker)).append('\n');
        see("find", () -> maker.make().findProduct());
        BatchWarehouse setup = maker.make();
        see("load", setup::load);
        see("code", setup::errorCode);
        see("position", setup::errorPosition);
        see("products", setup::productCount);
        BatchWarehouse script = maker.make();
        see("run", script::runScript);
        see("code", script::errorCode);
        see("position", script::errorPosition);
        summary(script);
    }
}
