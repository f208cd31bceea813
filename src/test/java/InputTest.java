/** Promises 2 to 6: the input buffer, load, and the error code and position of the latest text. */
public final class InputTest {
    private static final String SETUP = "warehouse;product a 5;product b 0;batch b 3 7 2;";

    public static void main(String[] args) {
        append();
        truncate();
        load();
        loadReplacesAll();
        failedLoadChangesNothing();
        errorsOfTheLatestText();
        Check.end("InputTest");
    }

    private static void append() {
        BatchWarehouse x = new BatchWarehouse();
        // "milk" needs its bytes in this order; the rest is cut away.
        Check.due("append", 20, () -> x.append(('m' << 24) + ('i' << 16) + ('l' << 8) + 'k', 0, 0, 0, 0));
        x.truncate(4);
        Check.due("most significant byte first", 0, x::findProduct);
        BatchWarehouse y = Check.loaded("warehouse;product abcd 1;product ab 2;product b 3;");
        Check.put(y, "ab");
        Check.due("two bytes", 1, y::findProduct);
        BatchWarehouse all = new BatchWarehouse();
        Check.due("all five words", 20, () -> all.append(0x77617265, 0x686f7573, 0x653b7072, 0x6f647563, 0x74207120));
        Check.due("a second append", 40, () -> all.append(0x31203b20, 0x20202020, 0x20202020, 0x20202020, 0x0a0a0a0a));
        all.truncate(23);
        Check.due("the text of six words", 1, all::load);
        Check.due("its product", "q", () -> Check.name(all, 0));
        BatchWarehouse full = new BatchWarehouse();
        for (int length = 20; length <= 600; length += 20) {
            int want = length;
            Check.due("append up to " + length, want, () -> full.append(0x20202020, 0x20202020, 0x20202020, 0x20202020, 0x20202020));
        }
        Check.impossible("over 600", () -> full.append(0, 0, 0, 0, 0));
        Check.due("still 600", 600, () -> full.truncate(600));
        full.truncate(581);
        Check.impossible("581 and 20", () -> full.append(0, 0, 0, 0, 0));
        full.truncate(580);
        Check.due("580 and 20", 600, () -> full.append(-1, -1, -1, -1, -1));
        Check.unfit("600 bytes are a text", full::load);
        Check.due("its first bad byte", 580, full::errorPosition);
        BatchWarehouse high = new BatchWarehouse();
        Check.due("all bits", 20, () -> high.append(-1, -1, -1, -1, -1));
        Check.unfit("byte 255", high::load);
        Check.due("code", 1, high::errorCode);
        Check.due("position", 0, high::errorPosition);
    }

    private static void truncate() {
        BatchWarehouse x = new BatchWarehouse();
        Check.put(x, "rice and more");
        Check.unfit("-1", () -> x.truncate(-1));
        Check.unfit("14", () -> x.truncate(14));
        Check.unfit("least", () -> x.truncate(Integer.MIN_VALUE));
        Check.unfit("greatest", () -> x.truncate(Integer.MAX_VALUE));
        Check.due("its length", 13, () -> x.truncate(13));
        Check.due("4", 4, () -> x.truncate(4));
        Check.due("what is left", 1, x::findProduct);
        Check.unfit("what was cut", () -> x.truncate(5));
        Check.due("0", 0, () -> x.truncate(0));
        Check.put(x, "eggs");
        Check.due("appended at the new end", 2, x::findProduct);
    }

    private static void load() {
        BatchWarehouse x = new BatchWarehouse();
        Check.put(x, SETUP);
        Check.due("products", 2, x::load);
        Check.unfit("the buffer is empty", () -> x.truncate(1));
        Check.due("code", 0, x::errorCode);
        Check.due("position", -1, x::errorPosition);
        Check.due("name", "a", () -> Check.name(x, 0));
        Check.due("name", "b", () -> Check.name(x, 1));
        Check.due("minimum", 5, () -> x.minimumStock(0));
        Check.due("batches", 1, x::batchCount);
        Check.due("received", 3, () -> x.receivedUnits(1));
        Check.due("received of the other", 0, () -> x.receivedUnits(0));
        Check.due("no batch", 1, () -> Check.loaded("warehouse;product z 0;").productCount());
    }

    private static void loadReplacesAll() {
        BatchWarehouse x = new BatchWarehouse();
        x.reserve(0, 5, 2);
        x.issue(0, 3);
        x.takeStock(2, 90);
        x.passDays(4);
        x.writeOffExpired();
        x.save(0);
        x.save(1);
        x.writeBatches(0);
        Check.put(x, SETUP);
        x.load();
        Check.due("day", 0, x::day);
        Check.due("reservations", 0, x::reservationCount);
        Check.due("delivered", 0, () -> x.deliveredUnits(0));
        Check.due("written off", 0, () -> x.writtenOffUnits(0));
        Check.due("adjustment", 0, () -> x.adjustment(1));
        Check.due("reserved", 0, () -> x.reservedOf(0));
        Check.outside("the third product is gone", () -> x.onHand(2));
        Check.impossible("slot 0", () -> x.restore(0));
        Check.impossible("slot 1", () -> x.restore(1));
        Check.impossible("undo", x::undo);
        Check.due("a new reservation", 0, () -> x.reserve(1, 2, 0));
        Check.due("its allocation", 2, () -> x.allocation(0, 0));
        Check.due("the output text is not of the state", (int) '3', () -> x.outputByte(0));
    }

    private static void failedLoadChangesNothing() {
        BatchWarehouse x = new BatchWarehouse();
        x.issue(0, 3);
        x.save(1);
        x.passDays(2);
        // All but the last token is a setup, so much of it is parsed.
        Check.put(x, SETUP + "batch a 1 1 0;");
        Check.unfit("a bad cost", x::load);
        Check.due("code", 2, x::errorCode);
        Check.due("position", SETUP.length() + 12, x::errorPosition);
        Check.unfit("the buffer is empty", () -> x.truncate(1));
        Check.due("products", 3, x::productCount);
        Check.due("name", "milk", () -> Check.name(x, 0));
        Check.due("minimum", 20, () -> x.minimumStock(0));
        Check.due("day", 2, x::day);
        Check.due("batches", 4, x::batchCount);
        Check.due("on hand", 47, () -> x.onHand(0));
        Check.due("delivered", 3, () -> x.deliveredUnits(0));
        Check.due("undo", 1, x::undo);
        Check.due("slot", 0, () -> x.restore(1));
    }

    private static void errorsOfTheLatestText() {
        BatchWarehouse x = new BatchWarehouse();
        Check.put(x, "ship");
        Check.unfit("script", x::runScript);
        Check.due("code of the script", 1, x::errorCode);
        Check.due("position of the script", 4, x::errorPosition);
        Check.due("a good script", 0, x::runScript);
        Check.due("code 0", 0, x::errorCode);
        Check.due("position NONE", -1, x::errorPosition);
        Check.unfit("an empty setup", x::load);
        Check.due("code of the setup", 1, x::errorCode);
        Check.due("position of the setup", 0, x::errorPosition);
        Check.put(x, "issue milk 50;issue milk 1;");
        Check.due("a script that stops", 1, x::runScript);
        Check.due("stopping is no error of the text", 0, x::errorCode);
        x.undo();
        x.passDays(1);
        x.save(0);
        Check.put(x, "warehouse;product abcdefg 1;");
        Check.unfit("a long name", x::load);
        x.undo();
        x.restore(0);
        Check.due("code stays through undo and restore", 3, x::errorCode);
        Check.due("position stays through undo and restore", 18, x::errorPosition);
        Check.put(x, SETUP);
        x.load();
        Check.due("code 0 after a setup", 0, x::errorCode);
        Check.due("position NONE after a setup", -1, x::errorPosition);
    }
}
