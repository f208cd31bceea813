/** Promises 7 to 20: the products. */
public final class ProductsTest {
    private static final int[] NO_PRODUCT = {-1, 3, 8, Integer.MIN_VALUE, Integer.MAX_VALUE};

    public static void main(String[] args) {
        countsAndDay();
        names();
        noSuchProduct();
        sums();
        availableOn();
        expiringWithin();
        values();
        reorder();
        Check.end("ProductsTest");
    }

    private static void countsAndDay() {
        BatchWarehouse x = new BatchWarehouse();
        Check.due("three products", 3, x::productCount);
        Check.due("one product", 1, () -> Check.loaded("warehouse;product z 1;").productCount());
        BatchWarehouse eight = Check.loaded("warehouse;product a 1;product b 1;product c 1;product d 1;"
            + "product e 1;product f 1;product g 1;product h 999;");
        Check.due("eight products", 8, eight::productCount);
        Check.due("the eighth minimum", 999, () -> eight.minimumStock(7));
        Check.due("day 0", 0, x::day);
        x.passDays(7);
        x.passDays(2);
        Check.due("day 9", 9, x::day);
    }

    private static void names() {
        BatchWarehouse x = Check.loaded("warehouse;product abcdef 1;product z 2;product zy 3;");
        for (int i = 0; i < 6; i++) {
            int index = i;
            Check.due("letter " + i, 'a' + i, () -> x.nameByte(0, index));
        }
        Check.outside("after six letters", () -> x.nameByte(0, 6));
        Check.outside("before the first letter", () -> x.nameByte(1, -1));
        Check.due("one letter", (int) 'z', () -> x.nameByte(1, 0));
        Check.outside("after one letter", () -> x.nameByte(1, 1));
        Check.outside("far behind", () -> x.nameByte(1, Integer.MAX_VALUE));
        Check.outside("no product 3", () -> x.nameByte(3, 0));
        Check.outside("no product -1", () -> x.nameByte(-1, 0));
        find(x, "abcdef", 0);
        find(x, "z", 1);
        find(x, "zy", 2);
        String[] unknown = {"", "a", "abcde", "abcdefg", "y", "z ", " z", "\0z", "zyx", "Z", "z;", "\u00fa"};
        for (String name : unknown) {
            x.truncate(0);
            Check.put(x, name);
            Check.fails("no product " + name, java.util.NoSuchElementException.class, x::findProduct);
            Check.due("the buffer stays", name.length(), () -> x.truncate(name.length()));
        }
    }

    private static void find(BatchWarehouse x, String name, int product) {
        x.truncate(0);
        Check.put(x, name);
        Check.due("find " + name, product, x::findProduct);
        Check.due("find " + name + " again", product, x::findProduct);
        Check.unfit("the buffer is not longer", () -> x.truncate(name.length() + 1));
    }

    private static void noSuchProduct() {
        BatchWarehouse x = new BatchWarehouse();
        for (int product : NO_PRODUCT) {
            Check.outside("nameByte " + product, () -> x.nameByte(product, 0));
            Check.outside("minimumStock " + product, () -> x.minimumStock(product));
            Check.outside("onHand " + product, () -> x.onHand(product));
            Check.outside("reserved " + product, () -> x.reserved(product));
            Check.outside("availableOn " + product, () -> x.availableOn(product, -1));
            Check.outside("expired " + product, () -> x.expired(product));
            Check.outside("expiringWithin " + product, () -> x.expiringWithin(product, -1));
            Check.outside("stockValue " + product, () -> x.stockValue(product));
            Check.outside("reorderQuantity " + product, () -> x.reorderQuantity(product));
        }
    }

    private static void sums() {
        BatchWarehouse x = new BatchWarehouse();
        Check.due("minimum of milk", 20, () -> x.minimumStock(0));
        Check.due("minimum of eggs", 10, () -> x.minimumStock(2));
        x.reserve(0, 25, 2);
        x.reserve(1, 4, 2);
        Check.due("on hand", 50, () -> x.onHand(0));
        Check.due("reserved in both batches", 25, () -> x.reserved(0));
        Check.due("reserved of another product", 4, () -> x.reserved(1));
        Check.due("reserved of none", 0, () -> x.reserved(2));
        Check.due("nothing expired", 0, () -> x.expired(0));
        x.passDays(3);
        Check.due("not expired on its day", 0, () -> x.expired(0));
        x.passDays(1);
        Check.due("expired, reserved or not", 20, () -> x.expired(0));
        Check.due("expired units are on hand", 50, () -> x.onHand(0));
        x.passDays(2);
        Check.due("both expired", 50, () -> x.expired(0));
        x.writeOffExpired();
        Check.due("written off", 0, () -> x.expired(0));
        Check.due("none on hand", 0, () -> x.onHand(0));
        Check.due("none reserved", 0, () -> x.reserved(0));
        x.ship(1);
        Check.due("shipped units are not reserved", 0, () -> x.reserved(1));
        Check.due("shipped units are not on hand", 96, () -> x.onHand(1));
    }

    private static void availableOn() {
        BatchWarehouse x = new BatchWarehouse();
        Check.due("day 0", 50, () -> x.availableOn(0, 0));
        Check.due("day 3", 50, () -> x.availableOn(0, 3));
        Check.due("day 4", 30, () -> x.availableOn(0, 4));
        Check.due("day 5", 30, () -> x.availableOn(0, 5));
        Check.due("day 6", 0, () -> x.availableOn(0, 6));
        Check.due("day 9999", 0, () -> x.availableOn(0, 9999));
        Check.unfit("day -1", () -> x.availableOn(0, -1));
        Check.unfit("day 10000", () -> x.availableOn(0, 10000));
        x.reserve(0, 7, 4);
        Check.due("without the reserved units", 23, () -> x.availableOn(0, 4));
        x.passDays(4);
        Check.due("a past day has its own issue order", 43, () -> x.availableOn(0, 0));
        Check.due("the current day", 23, () -> x.availableOn(0, 4));
    }

    private static void expiringWithin() {
        BatchWarehouse x = new BatchWarehouse();
        Check.due("2 days", 0, () -> x.expiringWithin(0, 2));
        Check.due("3 days", 20, () -> x.expiringWithin(0, 3));
        Check.due("4 days", 20, () -> x.expiringWithin(0, 4));
        Check.due("5 days", 50, () -> x.expiringWithin(0, 5));
        Check.due("999 days", 100, () -> x.expiringWithin(1, 999));
        Check.unfit("-1 days", () -> x.expiringWithin(0, -1));
        Check.unfit("1000 days", () -> x.expiringWithin(0, 1000));
        x.reserve(0, 5, 3);
        Check.due("reserved units count", 20, () -> x.expiringWithin(0, 3));
        x.passDays(3);
        Check.due("the last day", 20, () -> x.expiringWithin(0, 0));
        x.passDays(1);
        Check.due("not the expired ones", 0, () -> x.expiringWithin(0, 0));
        Check.due("only what comes", 30, () -> x.expiringWithin(0, 1));
    }

    private static void values() {
        BatchWarehouse x = new BatchWarehouse();
        Check.due("milk", 560, () -> x.stockValue(0));
        Check.due("rice", 400, () -> x.stockValue(1));
        Check.due("eggs", 72, () -> x.stockValue(2));
        Check.due("all", 1032, x::totalValue);
        x.issue(0, 21);
        Check.due("milk after an issue", 348, () -> x.stockValue(0));
        Check.due("all after an issue", 820, x::totalValue);
        x.passDays(999);
        Check.due("expired units have a value", 820, x::totalValue);
        x.writeOffExpired();
        Check.due("written-off units have none", 0, x::totalValue);
        StringBuilder setup = new StringBuilder("warehouse;product z 1;");
        for (int i = 0; i < 20; i++) {
            setup.append("batch z 999 999 999;");
        }
        Check.due("the greatest value", 20 * 999 * 999, () -> Check.loaded(setup.toString()).totalValue());
    }

    private static void reorder() {
        BatchWarehouse x = new BatchWarehouse();
        Check.due("enough", 0, () -> x.reorderQuantity(0));
        Check.due("no product", 0, x::reorderCount);
        x.issue(0, 30);
        Check.due("just the minimum", 0, () -> x.reorderQuantity(0));
        x.issue(0, 1);
        Check.due("one below", 1, () -> x.reorderQuantity(0));
        Check.due("one product", 1, x::reorderCount);
        x.reserve(2, 15, 9);
        Check.due("reserved units are not available", 1, () -> x.reorderQuantity(2));
        Check.due("two products", 2, x::reorderCount);
        x.passDays(6);
        Check.due("nor are expired ones", 20, () -> x.reorderQuantity(0));
        Check.due("a minimum of 0", 0, () -> Check.loaded("warehouse;product z 0;").reorderQuantity(0));
    }
}
