import java.lang.management.ManagementFactory;

/** All calls of a run live in one room, so a call makes nothing but the exception that it throws. */
public final class RoomTest {
    private static final com.sun.management.ThreadMXBean THREADS = (com.sun.management.ThreadMXBean) ManagementFactory.getThreadMXBean();
    // Far below what one array or object in each of these calls would take.
    private static final long FEW_BYTES = 2000;

    public static void main(String[] args) {
        BatchWarehouse warm = new BatchWarehouse();
        calls(warm);
        long before = allocated();
        BatchWarehouse x = new BatchWarehouse();
        long made = allocated() - before;
        Check.note("a new object takes " + made + " bytes, of 40000", true, made < 40000);
        before = allocated();
        int sum = calls(x);
        made = allocated() - before;
        Check.note("500 calls take " + made + " bytes (" + sum + ")", true, made < FEW_BYTES);
        Check.end("RoomTest");
    }

    private static long allocated() {
        return THREADS.getThreadAllocatedBytes(Thread.currentThread().getId());
    }

    private static int calls(BatchWarehouse x) {
        int sum = 0;
        for (int round = 0; round < 30; round++) {
            // the script "issue milk1;days1;  "
            x.append(0x69737375, 0x65206d69, 0x6c6b313b, 0x64617973, 0x313b2020);
            sum += x.runScript();
            sum += x.undo();
            sum += x.save(0);
            sum += x.reserve(1, 3, 5);
            sum += x.ship(0);
            sum += x.undo();
            sum += x.refill(0);
            sum += x.demandWithoutWaste(0);
            sum += x.wasteWithDemand(0, 1, 365);
            sum += x.daysUntilShortage(1, 1);
            sum += x.costOfIssue(0, 25);
            sum += x.writeBatches(0);
            sum += x.restore(0);
            // the setup "warehouse;product a1;batch a30 5 10;    "
            x.append(0x77617265, 0x686f7573, 0x653b7072, 0x6f647563, 0x74206131);
            x.append(0x3b626174, 0x63682061, 0x33302035, 0x2031303b, 0x20202020);
            sum += x.truncate(0);
        }
        x.append(0x77617265, 0x686f7573, 0x653b7072, 0x6f647563, 0x74206131);
        x.append(0x3b626174, 0x63682061, 0x33302035, 0x2031303b, 0x20202020);
        return sum + x.load();
    }
}
