/** Promises 58 to 60: undo and saved states. */
public final class UndoTest {
    public static void main(String[] args) {
        eachChange();
        theLatestSix();
        refusalsAreNoChanges();
        wholeState();
        whatStays();
        slots();
        restoreClearsTheHistory();
        Check.end("UndoTest");
    }

    private static void eachChange() {
        BatchWarehouse x = new BatchWarehouse();
        x.reserve(0, 5, 0);
        x.receive(0, 1, 1, 1);
        Check.due("receive", 1, x::undo);
        Check.due("batches", 4, x::batchCount);
        x.issue(0, 1);
        Check.due("issue", 1, x::undo);
        Check.due("on hand", 50, () -> x.onHand(0));
        x.reserve(0, 7, 0);
        Check.due("reserve", 1, x::undo);
        Check.due("reservations", 1, x::reservationCount);
        Check.due("reserved", 5, () -> x.reserved(0));
        x.ship(0);
        Check.due("ship", 1, x::undo);
        Check.due("open", true, () -> x.isOpen(0));
        Check.due("delivered", 0, () -> x.deliveredUnits(0));
        x.cancel(0);
        Check.due("cancel", 1, x::undo);
        Check.due("reserved", 5, () -> x.reservedOf(1));
        x.refill(0);
        Check.due("refill of nothing", 1, x::undo);
        x.takeStock(0, 3);
        Check.due("takeStock", 1, x::undo);
        Check.due("quantity", 30, () -> x.quantity(0));
        Check.due("adjustment", 0, () -> x.adjustment(0));
        x.writeOffExpired();
        Check.due("writeOffExpired of nothing", 1, x::undo);
        x.passDays(1);
        Check.due("passDays", 1, x::undo);
        Check.due("day", 0, x::day);
        Check.script(x, "days 4;writeoff;");
        Check.due("runScript", 1, x::undo);
        Check.due("written off", 0, () -> x.writtenOffUnits(0));
        Check.due("allocation", 5, () -> x.allocation(0, 1));
        Check.due("the first reservation", 0, x::undo);
        Check.impossible("none is left", x::undo);
        Check.due("reservations", 0, x::reservationCount);
    }

    private static void theLatestSix() {
        BatchWarehouse x = new BatchWarehouse();
        for (int i = 1; i <= 9; i++) {
            x.passDays(i);
        }
        Check.due("day", 45, x::day);
        for (int left = 5; left >= 0; left--) {
            int want = left;
            Check.due("undo with " + left + " left", want, x::undo);
            int day = (left + 3) * (left + 4) / 2;
            Check.due("day", day, x::day);
        }
        Check.impossible("a seventh", x::undo);
        Check.due("day", 6, x::day);
        x.passDays(1);
        x.passDays(1);
        Check.due("undo", 1, x::undo);
        x.passDays(5);
        Check.due("an undone change is not undone again", 1, x::undo);
        Check.due("day", 7, x::day);
        Check.due("undo", 0, x::undo);
        Check.due("day", 6, x::day);
    }

    private static void refusalsAreNoChanges() {
        BatchWarehouse x = new BatchWarehouse();
        x.passDays(1);
        Check.impossible("issue", () -> x.issue(0, 51));
        Check.unfit("reserve", () -> x.reserve(0, 1, 0));
        Check.outside("ship", () -> x.ship(0));
        Check.outside("cancel", () -> x.cancel(0));
        Check.outside("refill", () -> x.refill(0));
        Check.unfit("takeStock", () -> x.takeStock(0, -1));
        Check.unfit("passDays", () -> x.passDays(0));
        Check.unfit("receive", () -> x.receive(0, 0, 0, 0));
        Check.put(x, "ship");
        Check.unfit("runScript", x::runScript);
        Check.due("one change only", 0, x::undo);
    }

    private static void wholeState() {
        BatchWarehouse x = new BatchWarehouse();
        x.reserve(0, 25, 2);
        x.issue(1, 10);
        x.takeStock(3, 30);
        x.save(0);
        Check.script(x, "ship 0;receive milk 9 9 9;reserve milk 9 5;issue eggs 3;count 2 70;days 20;writeoff;");
        x.undo();
        checkState(x, "undone");
        Check.script(x, "receive rice 1 1 1;cancel 0;days 30;writeoff;reserve rice 1 50;");
        x.restore(0);
        checkState(x, "restored");
    }

    private static void checkState(BatchWarehouse x, String how) {
        Check.due(how + ": day", 0, x::day);
        Check.due(how + ": batches", 4, x::batchCount);
        Check.due(how + ": reservations", 1, x::reservationCount);
        Check.due(how + ": open", true, () -> x.isOpen(0));
        Check.due(how + ": allocation", 20, () -> x.allocation(0, 1));
        Check.due(how + ": allocation", 5, () -> x.allocation(0, 0));
        Check.due(how + ": reserved", 25, () -> x.reserved(0));
        Check.due(how + ": on hand", 50, () -> x.onHand(0));
        Check.due(how + ": rice", 90, () -> x.onHand(1));
        Check.due(how + ": eggs", 30, () -> x.onHand(2));
        Check.due(how + ": received", 50, () -> x.receivedUnits(0));
        Check.due(how + ": received rice", 100, () -> x.receivedUnits(1));
        Check.due(how + ": delivered", 0, () -> x.deliveredUnits(0));
        Check.due(how + ": delivered rice", 10, () -> x.deliveredUnits(1));
        Check.due(how + ": written off", 0, () -> x.writtenOffUnits(2));
        Check.due(how + ": adjustment", 6, () -> x.adjustment(2));
        Check.due(how + ": adjustment of rice", 0, () -> x.adjustment(1));
        Check.due(how + ": consistent", 0, x::inconsistencies);
    }

    private static void whatStays() {
        BatchWarehouse x = new BatchWarehouse();
        x.passDays(1);
        x.save(1);
        x.writeBatches(0);
        Check.put(x, "rice");
        x.undo();
        Check.due("the input buffer", 1, x::findProduct);
        Check.due("the output text", (int) '2', () -> x.outputByte(0));
        Check.due("the saved state", 1, () -> x.restore(1));
        Check.due("the input buffer", 1, x::findProduct);
        Check.due("the output text", (int) '@', () -> x.outputByte(2));
    }

    private static void slots() {
        BatchWarehouse x = new BatchWarehouse();
        for (int slot : new int[] {-1, 2, Integer.MIN_VALUE, Integer.MAX_VALUE}) {
            Check.outside("save " + slot, () -> x.save(slot));
            Check.outside("restore " + slot, () -> x.restore(slot));
        }
        Check.impossible("nothing in slot 0", () -> x.restore(0));
        Check.due("save on day 0", 0, () -> x.save(0));
        Check.impossible("nothing in slot 1", () -> x.restore(1));
        x.passDays(3);
        Check.due("save on day 3", 3, () -> x.save(1));
        x.passDays(4);
        Check.due("saving is no change", 1, x::undo);
        Check.due("restore day 0", 0, () -> x.restore(0));
        Check.due("day", 0, x::day);
        Check.due("restore day 3", 3, () -> x.restore(1));
        x.issue(0, 5);
        Check.due("a saved state stays saved", 3, () -> x.restore(1));
        Check.due("as it was", 50, () -> x.onHand(0));
        x.passDays(2);
        Check.due("save over it", 5, () -> x.save(1));
        x.passDays(1);
        Check.due("the new one", 5, () -> x.restore(1));
        Check.due("the other one", 0, () -> x.restore(0));
    }

    private static void restoreClearsTheHistory() {
        BatchWarehouse x = new BatchWarehouse();
        x.passDays(1);
        x.save(0);
        x.passDays(1);
        Check.outside("a wrong slot", () -> x.restore(2));
        Check.impossible("an empty slot", () -> x.restore(1));
        Check.due("refused restores clear nothing", 1, x::undo);
        x.restore(0);
        Check.impossible("nothing to undo", x::undo);
        Check.due("day", 1, x::day);
        x.passDays(1);
        Check.due("a change after it", 0, x::undo);
    }
}
