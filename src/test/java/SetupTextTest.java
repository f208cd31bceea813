/** "Texts" and "Errors" for setup texts (promises 4 to 6): every error at its place. */
public final class SetupTextTest {
    private static final String HEAD = "warehouse;product a 1;";

    public static void main(String[] args) {
        grammar();
        endsTooEarly();
        tokens();
        numbers();
        names();
        tooMany();
        valid();
        Check.end("SetupTextTest");
    }

    private static void error(String text, int code, int position) {
        BatchWarehouse x = new BatchWarehouse();
        Check.put(x, text);
        Check.unfit(text, x::load);
        Check.due("code of " + text, code, x::errorCode);
        Check.due("position of " + text, position, x::errorPosition);
        Check.due("products after " + text, 3, x::productCount);
    }

    private static void good(String text, int products, int batches) {
        BatchWarehouse x = new BatchWarehouse();
        Check.put(x, text);
        Check.due(text, products, x::load);
        Check.due("code of " + text, 0, x::errorCode);
        Check.due("position of " + text, -1, x::errorPosition);
        Check.due("batches of " + text, batches, x::batchCount);
    }

    /** The text with "?" as the place of an error of code 1. */
    private static void wrongAt(String text) {
        error(text.replace("?", ""), 1, text.indexOf('?'));
    }

    private static void grammar() {
        wrongAt("?product a 1;");
        wrongAt("?;");
        wrongAt("?5");
        wrongAt("?warehous;product a 1;");
        wrongAt("?warehousf;product a 1;");
        wrongAt("?xarehouse;product a 1;");
        wrongAt("warehouse;?xroduct a 1;");
        wrongAt(HEAD + "?xatch a 1 1 1;");
        wrongAt("warehouse ?product a 1;");
        wrongAt("warehouse;?;product a 1;");
        wrongAt("warehouse;?batch a 1 1 1;");
        wrongAt("warehouse;?a 1;");
        wrongAt("warehouse;product?;");
        wrongAt("warehouse;product ?1 a;");
        wrongAt("warehouse;product a ?b;");
        wrongAt("warehouse;product a?;");
        wrongAt("warehouse;product a 1 ?2;");
        wrongAt("warehouse;product a 1 ?product b 1;");
        wrongAt(HEAD + "?;");
        wrongAt(HEAD + "?warehouse;");
        wrongAt(HEAD + "?7");
        wrongAt(HEAD + "batch ?1 1 1 1;");
        wrongAt(HEAD + "batch?;");
        wrongAt(HEAD + "batch a ?a 1 1;");
        wrongAt(HEAD + "batch a 1?;");
        wrongAt(HEAD + "batch a 1 1?;");
        wrongAt(HEAD + "batch a 1 1 1 ?1;");
        wrongAt(HEAD + "batch a 1 1 1;?product b 1;");
        wrongAt(HEAD + "batch a 1 1 1;?;");
        wrongAt(HEAD + "batch a 1 1 1;?warehouse");
    }

    private static void endsTooEarly() {
        wrongAt("?");
        wrongAt("  \n ?");
        wrongAt("warehouse?");
        wrongAt("warehouse;?");
        wrongAt("warehouse;  ?");
        wrongAt("warehouse;product?");
        wrongAt("warehouse;product a?");
        wrongAt("warehouse;product a 1?");
        wrongAt(HEAD + "product?");
        wrongAt(HEAD + "batch?");
        wrongAt(HEAD + "batch a?");
        wrongAt(HEAD + "batch a 1?");
        wrongAt(HEAD + "batch a 1 1?");
        wrongAt(HEAD + "batch a 1 1 1 \n?");
    }

    private static void tokens() {
        wrongAt("?warehousee;product a 1;");
        wrongAt("warehouse;product ?abcdefghij 1;");
        wrongAt("warehouse;product a ?00001;");
        wrongAt("warehouse;product a ?12345;");
        wrongAt("warehouse?,product a 1;");
        wrongAt("?Warehouse;product a 1;");
        wrongAt("warehouse;product ?A 1;");
        wrongAt("warehouse;product a?\t1;");
        wrongAt("warehouse;product a?\r1;");
        wrongAt("warehouse;product a ?-1;");
        wrongAt("warehouse;product a?\u00e4 1;");
        wrongAt("warehouse;product a?\u0000 1;");
        wrongAt("warehouse;product a 1?:");
        wrongAt("warehouse;product a 1?/");
        wrongAt("warehouse;product a?` 1;");
        wrongAt("warehouse;product a?{ 1;");
        wrongAt(HEAD + "batch a ?10000 1 1;");
        wrongAt(HEAD + "?abcdefghij a 1 1 1;");
        wrongAt(HEAD + "?!");
        wrongAt(HEAD + "batch a 1 1 1;?\u00a0");
    }

    private static void numbers() {
        error("warehouse;product a 1000;", 2, 20);
        error("warehouse;product a 9999;", 2, 20);
        error(HEAD + "batch a 0 1 1;", 2, 30);
        error(HEAD + "batch a 0000 1 1;", 2, 30);
        error(HEAD + "batch a 1000 1 1;", 2, 30);
        error(HEAD + "batch a 1 1 0;", 2, 34);
        error(HEAD + "batch a 1 1 1000;", 2, 34);
        error("warehouse;product a 1000 b", 2, 20);
        good("warehouse;product a 999;product b 0;", 2, 0);
        good(HEAD + "batch a 999 9999 999;batch a 1 0 1;", 1, 2);
        BatchWarehouse x = Check.loaded("warehouse;product a 0007;batch a 0020 0009 0010;");
        Check.due("leading zeros in a minimum", 7, () -> x.minimumStock(0));
        Check.due("leading zeros in a quantity", 20, () -> x.quantity(0));
        Check.due("leading zeros in an expiry day", 9, () -> x.expiryDay(0));
        Check.due("leading zeros in a cost", 10, () -> x.unitCost(0));
    }

    private static void names() {
        error("warehouse;product abcdefg 1;", 3, 18);
        error("warehouse;product product 1;", 3, 18);
        error("warehouse;product abcdefghi 1;", 3, 18);
        error(HEAD + "product a 1;", 3, 30);
        error(HEAD + "product b 1;product a 1;", 3, 42);
        error(HEAD + "product a", 3, 30);
        error(HEAD + "batch b 1 1 1;", 3, 28);
        error(HEAD + "batch aa 1 1 1;", 3, 28);
        error(HEAD + "batch abcdefg 1 1 1;", 3, 28);
        error("warehouse;product ab 1;batch a 1 1 1;", 3, 29);
        good("warehouse;product abcdef 1;product abcde 1;product abcdeg 1;", 3, 0);
        good("warehouse;product batch 1;product ship 2;batch batch 1 1 1;batch ship 1 1 1;", 2, 2);
    }

    private static String products(int count) {
        StringBuilder text = new StringBuilder("warehouse;");
        for (int i = 0; i < count; i++) {
            text.append("product ").append((char) ('a' + i)).append(' ').append(i).append(';');
        }
        return text.toString();
    }

    private static String batches(int count) {
        StringBuilder text = new StringBuilder(HEAD);
        for (int i = 0; i < count; i++) {
            text.append("batch a ").append(i + 1).append(" 1 1;");
        }
        return text.toString();
    }

    private static void tooMany() {
        good(products(8), 8, 0);
        error(products(9), 4, products(8).length());
        error(products(8) + "product", 4, products(8).length());
        error(products(8) + "product a 1;", 4, products(8).length());
        good(products(8) + "batch h 1 1 1;", 8, 1);
        error(products(8) + "batch h 1 1 1;product i 1;", 1, products(8).length() + 14);
        good(batches(20), 1, 20);
        error(batches(21), 4, batches(20).length());
        error(batches(20) + "batch b 0", 4, batches(20).length());
        error(batches(20) + "product b 1;", 1, batches(20).length());
        error(batches(20) + ";", 1, batches(20).length());
    }

    private static void valid() {
        good("\n warehouse\n;\n product  a\n\n1 ;batch a 1 1 1 ; \n", 1, 1);
        good("warehouse;product a1;batch a1 2 3;", 1, 1);
        good("warehouse;producta 1;".replace("producta", "product a"), 1, 0);
        BatchWarehouse x = Check.loaded("warehouse;product a1;batch a12 34 56;");
        Check.due("a number right behind a word", 12, () -> x.quantity(0));
        Check.due("a run of letters is one word", 1, () -> {
            BatchWarehouse y = new BatchWarehouse();
            Check.put(y, "warehouse;producta 1;");
            try {
                y.load();
            } catch (IllegalArgumentException e) {
                return y.errorCode();
            }
            return 0;
        });
        error("warehouse;product1a1;", 1, 17);
    }
}
