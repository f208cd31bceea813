/** Promise 57, and "Texts" and "Errors" for scripts. */
public final class ScriptTest {
    public static void main(String[] args) {
        grammar();
        names();
        tooMany();
        commands();
        stops();
        oneChange();
        failedScriptChangesNothing();
        Check.end("ScriptTest");
    }

    private static void error(String text, int code, int position) {
        BatchWarehouse x = new BatchWarehouse();
        x.passDays(1);
        Check.put(x, text);
        Check.unfit(text, x::runScript);
        Check.due("code of " + text, code, x::errorCode);
        Check.due("position of " + text, position, x::errorPosition);
        Check.due("on hand after " + text, 50, () -> x.onHand(0));
        Check.due("undo after " + text, 0, x::undo);
    }

    private static void wrongAt(String text) {
        error(text.replace("?", ""), 1, text.indexOf('?'));
    }

    private static void runs(String text, int executed) {
        BatchWarehouse x = new BatchWarehouse();
        Check.put(x, text);
        Check.due(text, executed, x::runScript);
        Check.due("code of " + text, 0, x::errorCode);
        Check.due("position of " + text, -1, x::errorPosition);
        Check.unfit("the buffer is empty after " + text, () -> x.truncate(1));
    }

    private static void grammar() {
        wrongAt("?;");
        wrongAt("?5;");
        wrongAt("?milk;");
        wrongAt("?warehouse;");
        wrongAt("?writeof;");
        wrongAt("?xriteoff;");
        wrongAt("?xays 1;");
        wrongAt("?writeoffs;");
        wrongAt("?writeofff;");
        wrongAt("writeoff?");
        wrongAt("writeoff ?1;");
        wrongAt("issue ?5 5;");
        wrongAt("issue milk?;");
        wrongAt("issue milk ?milk;");
        wrongAt("issue milk 5 ?5;");
        wrongAt("issue milk 5 ?issue milk 5;");
        wrongAt("receive milk 1 1?;");
        wrongAt("receive milk 1 1 1 ?1;");
        wrongAt("reserve milk 1?;");
        wrongAt("reserve milk 1 1 ?1;");
        wrongAt("ship?;");
        wrongAt("ship ?milk;");
        wrongAt("cancel ?milk 1;");
        wrongAt("refill 1 ?1;");
        wrongAt("count 1?;");
        wrongAt("count 1 1 ?1;");
        wrongAt("days?;");
        wrongAt("days 1 ?1;");
        wrongAt("days ?10000;");
        wrongAt("days ?00001;");
        wrongAt("days 1;?;");
        wrongAt("days 1?");
        wrongAt("days 1;ship?");
        wrongAt("issue milk 5;?Days 1;");
        wrongAt("issue ?abcdefghij 5;");
        runs("", 0);
        runs(" \n ", 0);
        runs("days1;issue\nmilk1 ;", 2);
    }

    private static void names() {
        error("issue bread 1;", 3, 6);
        error("issue mil 1;", 3, 6);
        error("issue milks 1;", 3, 6);
        error("issue abcdefg", 3, 6);
        error("receive bread 1 1 1;", 3, 8);
        error("reserve bread 1 1;", 3, 8);
        error("days 1;issue milk 1;issue bread 1;", 3, 26);
        BatchWarehouse x = Check.loaded("warehouse;product issue 1;product days 1;batch issue 9 9 9;batch days 9 9 9;");
        Check.due("words of the grammar as names", 2, () -> Check.script(x, "issue issue 4;issue days 5;"));
        Check.due("issue", 5, () -> x.onHand(0));
        Check.due("days", 4, () -> x.onHand(1));
    }

    private static void tooMany() {
        String thirty = "days 1;".repeat(30);
        runs(thirty, 30);
        error(thirty + "days 1;", 4, thirty.length());
        error(thirty + "writeoff", 4, thirty.length());
        error(thirty + "issue", 4, thirty.length());
        error(thirty + "milk", 1, thirty.length());
        error(thirty + ";", 1, thirty.length());
        error(thirty + "1", 1, thirty.length());
        error(thirty + "abcdefghij", 1, thirty.length());
        runs(thirty + "  \n", 30);
    }

    private static void commands() {
        BatchWarehouse x = new BatchWarehouse();
        Check.due("receive", 1, () -> Check.script(x, "receive eggs 7 8 9;"));
        Check.due("product", 2, () -> x.productOf(4));
        Check.due("quantity", 7, () -> x.quantity(4));
        Check.due("expiry", 8, () -> x.expiryDay(4));
        Check.due("cost", 9, () -> x.unitCost(4));
        Check.due("issue", 1, () -> Check.script(x, "issue milk 25;"));
        Check.due("first batch by expiry", 0, () -> x.quantity(1));
        Check.due("second batch by expiry", 25, () -> x.quantity(0));
        Check.due("reserve", 3, () -> Check.script(x, "reserve milk 5 4;reserve rice 10 20;reserve eggs 3 9;"));
        Check.due("product", 1, () -> x.reservedProduct(1));
        Check.due("quantity", 10, () -> x.reservedQuantity(1));
        Check.due("allocation for the shipping day", 3, () -> x.allocation(2, 3));
        Check.due("ship", 1, () -> Check.script(x, "ship 1;"));
        Check.due("shipped", 10, () -> x.deliveredUnits(1));
        Check.due("cancel", 1, () -> Check.script(x, "cancel 2;"));
        Check.due("cancelled", 0, () -> x.reserved(2));
        Check.due("count", 1, () -> Check.script(x, "count 2 80;"));
        Check.due("adjustment", -10, () -> x.adjustment(1));
        Check.due("days", 1, () -> Check.script(x, "days 6;"));
        Check.due("day", 6, x::day);
        Check.due("writeoff", 1, () -> Check.script(x, "writeoff;"));
        Check.due("written off", 25, () -> x.writtenOffUnits(0));
        Check.due("missing", 5, () -> x.missing(0));
        Check.due("refill", 2, () -> Check.script(x, "receive milk 4 9 1;refill 0;"));
        Check.due("missing after the refill", 1, () -> x.missing(0));
    }

    private static void stops() {
        BatchWarehouse x = new BatchWarehouse();
        Check.due("stops at the first refusal", 2, () -> Check.script(x, "issue milk 10;days 1;issue milk 41;issue milk 1;"));
        Check.due("delivered", 10, () -> x.deliveredUnits(0));
        Check.due("day", 1, x::day);
        String[] refused = {"receive milk 0 1 1;", "receive milk 1 1 0;", "receive milk 1000 1 1;", "issue milk 0;", "issue rice 101;",
            "reserve milk 1 0;", "reserve milk 0 3;", "ship 0;", "cancel 0;", "refill 0;", "count 4 1;", "count 0 1000;",
            "days 0;", "days 1000;"};
        for (String command : refused) {
            Check.due("refused: " + command, 0, () -> Check.script(x, command + "writeoff;"));
        }
        Check.due("9999 is no error of a script", 0, () -> Check.script(x, "issue milk 9999;"));
        Check.due("a refusal in the middle", 3, () -> Check.script(x, "reserve milk 5 2;ship 0;days 2;ship 0;days 2;"));
        Check.due("day", 3, x::day);
        Check.due("count below the reserved quantity", 1, () -> Check.script(x, "reserve rice 5 9;count 2 4;"));
    }

    private static void oneChange() {
        BatchWarehouse x = new BatchWarehouse();
        x.passDays(1);
        Check.script(x, "issue milk 1;issue milk 2;issue milk 3;issue milk 4;issue milk 5;issue milk 6;issue milk 7;");
        Check.due("seven commands are one change", 1, x::undo);
        Check.due("all of them undone", 50, () -> x.onHand(0));
        Check.due("day", 1, x::day);
        Check.script(x, "");
        Check.script(x, "ship 0;");
        Check.due("scripts without effect count", 2, x::undo);
        Check.due("one more", 1, x::undo);
        Check.due("and the days", 0, x::undo);
        Check.due("day", 0, x::day);
    }

    private static void failedScriptChangesNothing() {
        BatchWarehouse x = new BatchWarehouse();
        x.issue(0, 1);
        x.save(0);
        Check.put(x, "issue milk 1;days 1;ship");
        Check.unfit("a script that ends too early", x::runScript);
        Check.unfit("the buffer is empty", () -> x.truncate(1));
        Check.due("nothing issued", 1, () -> x.deliveredUnits(0));
        Check.due("day", 0, x::day);
        Check.due("only the issue can be undone", 0, x::undo);
        Check.due("the slot is still filled", 0, () -> x.restore(0));
    }
}
