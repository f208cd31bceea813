/** Promises 61 and 62: the output text. */
public final class OutputTest {
    public static void main(String[] args) {
        writes();
        bytes();
        longest();
        Check.end("OutputTest");
    }

    private static void writes() {
        BatchWarehouse x = new BatchWarehouse();
        Check.due("two batches", 9, () -> x.writeBatches(0));
        Check.due("by expiry day", "20@3 30@5", () -> Check.batches(x, 0));
        Check.due("one batch", "100@200", () -> Check.batches(x, 1));
        x.passDays(3);
        Check.due("the last day", "20@3 30@5", () -> Check.batches(x, 0));
        x.passDays(1);
        Check.due("expired", "20@3! 30@5", () -> Check.batches(x, 0));
        x.reserve(0, 30, 5);
        Check.due("reserved units are on hand", "20@3! 30@5", () -> Check.batches(x, 0));
        x.writeOffExpired();
        Check.due("not an empty one", "30@5", () -> Check.batches(x, 0));
        x.passDays(999);
        Check.due("both marks", "30@5!", () -> Check.batches(x, 0));
        BatchWarehouse y = Check.loaded("warehouse;product a 1;product b 1;"
            + "batch a 5 9 1;batch a 6 0 1;batch b 1 1 1;batch a 7 9 1;batch a 999 9999 1;batch a 10 9 1;batch a 8 0 1;");
        Check.due("equal days by number", "6@0 8@0 5@9 7@9 10@9 999@9999", () -> Check.batches(y, 0));
        Check.outside("product 2", () -> y.writeBatches(2));
        Check.outside("product -1", () -> y.writeBatches(-1));
        Check.outside("far product", () -> y.writeBatches(Integer.MAX_VALUE));
        Check.due("a refusal writes nothing", (int) '6', () -> y.outputByte(0));
    }

    private static void bytes() {
        BatchWarehouse x = new BatchWarehouse();
        Check.outside("nothing written", () -> x.outputByte(0));
        Check.outside("nothing written", () -> x.outputByte(-1));
        x.writeBatches(2);
        Check.due("first", (int) '2', () -> x.outputByte(0));
        Check.due("at", 64, () -> x.outputByte(2));
        Check.due("last", (int) '9', () -> x.outputByte(3));
        Check.outside("after the last", () -> x.outputByte(4));
        Check.outside("before the first", () -> x.outputByte(-1));
        Check.outside("least", () -> x.outputByte(Integer.MIN_VALUE));
        Check.outside("greatest", () -> x.outputByte(Integer.MAX_VALUE));
        x.issue(2, 24);
        Check.due("the text is not written anew by itself", (int) '2', () -> x.outputByte(0));
        Check.due("no batch", 0, () -> x.writeBatches(2));
        Check.outside("an empty text", () -> x.outputByte(0));
    }

    private static void longest() {
        StringBuilder setup = new StringBuilder("warehouse;product z 1;");
        StringBuilder want = new StringBuilder();
        for (int i = 0; i < 20; i++) {
            setup.append("batch z 999 9998 9;");
            want.append(i == 0 ? "" : " ").append("999@9998!");
        }
        BatchWarehouse x = Check.loaded(setup.toString());
        for (int i = 0; i < 10; i++) {
            x.passDays(999);
        }
        x.passDays(9);
        Check.due("20 long batches", want.toString(), () -> Check.batches(x, 0));
    }
}
