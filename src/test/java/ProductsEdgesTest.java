import java.util.NoSuchElementException;

/** The edges of promises 7 to 20, each with the sentence that names it. */
public final class ProductsEdgesTest {
    public static void main(String[] args) throws Exception {
        productCount();
        day();
        nameByte();
        findProduct();
        minimumStock();
        onHand();
        reserved();
        availableOn();
        expired();
        expiringWithin();
        stockValue();
        totalValue();
        reorderQuantity();
        reorderCount();
        Edges.end("ProductsEdgesTest");
    }

    /** Batches around an expiry day: one unit on day 4, two on 5, four on 6; eight of another product on 5. */
    private static BatchWarehouse aroundDayFive(int day) {
        BatchWarehouse x = Check.loaded("warehouse;product z 9;product y 9;batch z 1 4 1;batch z 2 5 10;batch z 4 6 100;batch y 8 5 999;");
        if (day > 0) {
            x.passDays(day);
        }
        return x;
    }

    private static void productCount() throws Exception {
        Edges.section("Promise 7");
        Edges.edge("Returns 1 to 8.", () -> {
            Check.due("1", 1, () -> Scene.bare().productCount());
            Check.due("3", 3, () -> Scene.fresh().productCount());
            Check.due("8", 8, () -> Scene.eight().productCount());
            BatchWarehouse x = Scene.eight();
            Check.put(x, "warehouse;");
            Check.outcome(x::load);
            Check.due("still 8", 8, x::productCount);
            Check.put(x, "warehouse;product z 1;");
            x.load();
            Check.due("now 1", 1, x::productCount);
        });
    }

    private static void day() throws Exception {
        Edges.section("Promise 8");
        Edges.edge("Returns 0 to 9999.", () -> {
            Check.due("0", 0, () -> Scene.fresh().day());
            BatchWarehouse x = new BatchWarehouse();
            x.passDays(1);
            Check.due("1", 1, x::day);
            x.passDays(999);
            Check.due("1000", 1000, x::day);
            BatchWarehouse last = Scene.lastDay();
            Check.due("9999", 9999, last::day);
            Check.impossible("no day behind it", () -> last.passDays(1));
            Check.due("9999 still", 9999, last::day);
        });
    }

    private static void nameByte() throws Exception {
        Edges.section("Promise 9");
        Edges.product((x, v) -> x.nameByte(v, 0), (x, v) -> x.nameByte(v, -1), (x, v) -> x.nameByte(v, 6));
        Edges.edge("`index`: position in the name, from 0", () -> {
            BatchWarehouse x = Check.loaded("warehouse;product azbycx 0;product q 0;product zzzzzz 0;");
            String name = "azbycx";
            for (int i = 0; i < 6; i++) {
                int index = i;
                Check.due("letter " + i, (int) name.charAt(i), () -> x.nameByte(0, index));
            }
            Check.due("the only letter", (int) 'q', () -> x.nameByte(1, 0));
            Check.due("the last letter of the last", (int) 'z', () -> x.nameByte(2, 5));
        });
        Edges.edge("Returns the letter as a byte.", () -> {
            BatchWarehouse x = Check.loaded("warehouse;product a 0;product z 0;");
            Check.due("a", 97, () -> x.nameByte(0, 0));
            Check.due("z", 122, () -> x.nameByte(1, 0));
        });
        Edges.edge("or its name has no such letter", () -> {
            Edges.outside(() -> Check.loaded("warehouse;product abcdef 0;product q 0;"), (x, v) -> x.nameByte(0, v), -1, 6, 7);
            Edges.outside(() -> Check.loaded("warehouse;product q 0;product abcdef 0;"), (x, v) -> x.nameByte(0, v), -1, 1, 6);
            Edges.outside(Scene::busy, (x, v) -> x.nameByte(0, v), -1, 4, 5);
            Edges.outside(Scene::busy, (x, v) -> x.nameByte(1, v), Edges.FAR);
        });
    }

    private static BatchWarehouse asking(BatchWarehouse x, String name) {
        x.truncate(0);
        Check.put(x, name);
        return x;
    }

    private static void findProduct() throws Exception {
        Edges.section("Promise 10");
        Edges.edge("Returns the number of the product whose name equals the whole input buffer, which stays unchanged.", () -> {
            Check.due("the first of one", 0, () -> asking(Scene.bare(), "z").findProduct());
            Check.due("the first of eight", 0, () -> asking(Scene.eight(), "a").findProduct());
            Check.due("the last of eight", 7, () -> asking(Scene.eight(), "h").findProduct());
            BatchWarehouse x = Check.loaded("warehouse;product abcdef 0;product abcde 0;product abcdeg 0;product f 0;");
            Check.due("six letters", 0, () -> asking(x, "abcdef").findProduct());
            Check.due("five of them", 1, () -> asking(x, "abcde").findProduct());
            Check.due("the last letter decides", 2, () -> asking(x, "abcdeg").findProduct());
            Check.due("one letter", 3, () -> asking(x, "f").findProduct());
            Check.sameSight("the buffer stays unchanged", Sight.ofAll(Scene::busy), Sight.ofAll(() -> {
                BatchWarehouse y = Scene.busy();
                y.findProduct();
                return y;
            }));
        });
        Edges.edge("Throws `NoSuchElementException` if no product has this name", () -> {
            String[] unknown = {"", " ", "mil", "milks", "milk ", " milk", "milk;", "Milk", "\0milk", "milk\0", "ilk", "milkrice", "ric", "y", "zz",
                "\u00edilk", "milk" + " ".repeat(596), "x".repeat(600)};
            for (String name : unknown) {
                Edges.refuses(NoSuchElementException.class, () -> asking(Scene.busy(), name), (x, v) -> x.findProduct(), 0);
            }
            BatchWarehouse x = Scene.fresh();
            Check.put(x, "warehouse;product z 1;");
            x.load();
            Check.fails("a product of an earlier setup", NoSuchElementException.class, () -> asking(x, "milk").findProduct());
        });
    }

    private static void minimumStock() throws Exception {
        Edges.section("Promise 11");
        Edges.product((x, v) -> x.minimumStock(v));
        Edges.edge("Returns 0 to 999.", () -> {
            BatchWarehouse x = Check.loaded("warehouse;product a 0;product b 999;product c 1;");
            Check.due("0", 0, () -> x.minimumStock(0));
            Check.due("999", 999, () -> x.minimumStock(1));
            Check.due("1", 1, () -> x.minimumStock(2));
        });
    }

    private static void onHand() throws Exception {
        Edges.section("Promise 12");
        Edges.product((x, v) -> x.onHand(v));
        Edges.edge("Returns the sum of the on-hand quantities of its batches, expired or not.", () -> {
            Check.due("no batch", 0, () -> Scene.bare().onHand(0));
            Check.due("none expired", 7, () -> aroundDayFive(4).onHand(0));
            Check.due("one expired", 7, () -> aroundDayFive(5).onHand(0));
            Check.due("all expired", 7, () -> aroundDayFive(7).onHand(0));
            Check.due("of 20 full batches", 19980, () -> Scene.plenty().onHand(0));
            BatchWarehouse x = aroundDayFive(0);
            x.issue(0, 7);
            Check.due("all issued", 0, () -> x.onHand(0));
            Check.due("of the other", 8, () -> x.onHand(1));
        });
    }

    private static void reserved() throws Exception {
        Edges.section("Promise 13");
        Edges.product((x, v) -> x.reserved(v));
        Edges.edge("Returns the sum of the reserved quantities of its batches.", () -> {
            BatchWarehouse x = aroundDayFive(0);
            Check.due("none", 0, () -> x.reserved(0));
            x.reserve(0, 7, 4);
            Check.due("all", 7, () -> x.reserved(0));
            Check.due("of the other", 0, () -> x.reserved(1));
            x.passDays(7);
            Check.due("of expired batches too", 7, () -> x.reserved(0));
            x.cancel(0);
            Check.due("none again", 0, () -> x.reserved(0));
            BatchWarehouse full = Scene.plenty();
            full.reserve(0, 9999, 99);
            full.reserve(0, 9981, 99);
            Check.due("of 20 full batches", 19980, () -> full.reserved(0));
        });
    }

    private static void availableOn() throws Exception {
        Edges.section("Promise 14");
        Edges.product((x, v) -> x.availableOn(v, 0), (x, v) -> x.availableOn(v, -1), (x, v) -> x.availableOn(v, 10000));
        Edges.edge("`day`: 0 to 9999", () -> Edges.range(Scene::busy, (x, v) -> x.availableOn(0, v), 0, 9999));
        Edges.edge("Returns the sum of the free quantities of its issue order for this day.", () -> {
            int[][] due = {{0, 7}, {4, 7}, {5, 6}, {6, 4}, {7, 0}, {9999, 0}};
            for (int[] each : due) {
                Check.due("on day " + each[0], each[1], () -> aroundDayFive(0).availableOn(0, each[0]));
                Check.due("on day " + each[0] + ", seen from day 9", each[1], () -> aroundDayFive(9).availableOn(0, each[0]));
            }
            Check.due("no batch", 0, () -> Scene.bare().availableOn(0, 0));
            BatchWarehouse x = aroundDayFive(0);
            x.reserve(0, 2, 5);
            Check.due("less the reserved units", 5, () -> x.availableOn(0, 5 - 1));
            Check.due("less the reserved units", 4, () -> x.availableOn(0, 5));
            x.reserve(0, 5, 4);
            Check.due("all reserved", 0, () -> x.availableOn(0, 0));
            Check.due("on the last day", 9, () -> Scene.lastDay().availableOn(0, 9999));
            Check.due("on the day before", 13, () -> Scene.lastDay().availableOn(0, 9998));
        });
        Edges.edge("Throws `IllegalArgumentException` if day is out of range", () -> {
            Edges.unfit(Scene::busy, (x, v) -> x.availableOn(2, v), -1, 10000);
            Edges.unfit(Scene::lastDay, (x, v) -> x.availableOn(0, v), -1, 10000);
            Edges.unfit(Scene::bare, (x, v) -> x.availableOn(0, v), -1, 10000, Integer.MIN_VALUE, Integer.MAX_VALUE);
        });
    }

    private static void expired() throws Exception {
        Edges.section("Promise 15");
        Edges.product((x, v) -> x.expired(v));
        Edges.edge("Returns the sum of the on-hand quantities of its expired batches.", () -> {
            int[] due = {0, 0, 0, 0, 0, 1, 3, 7, 7};
            for (int day = 0; day < due.length; day++) {
                int on = day;
                Check.due("on day " + on, due[on], () -> aroundDayFive(on).expired(0));
            }
            Check.due("no batch", 0, () -> Scene.bare().expired(0));
            BatchWarehouse x = aroundDayFive(5);
            x.receive(0, 100, 4, 1);
            x.receive(0, 200, 5, 1);
            Check.due("received when expired", 101, () -> x.expired(0));
            x.takeStock(0, 0);
            Check.due("an empty one", 100, () -> x.expired(0));
            x.writeOffExpired();
            Check.due("written off", 0, () -> x.expired(0));
            Check.due("expiry day 0 on day 0", 0, () -> Check.loaded("warehouse;product z 1;batch z 5 0 1;").expired(0));
            Check.due("on the last day", 4, () -> Scene.lastDay().expired(0));
        });
    }

    private static void expiringWithin() throws Exception {
        Edges.section("Promise 16");
        Edges.product((x, v) -> x.expiringWithin(v, 0), (x, v) -> x.expiringWithin(v, -1), (x, v) -> x.expiringWithin(v, 1000));
        Edges.edge("`days`: 0 to 999", () -> Edges.range(Scene::busy, (x, v) -> x.expiringWithin(0, v), 0, 999));
        Edges.edge("Returns the sum of the on-hand quantities of its batches that are not expired and whose expiry day is at most the current"
            + " day plus days.", () -> {
                int[][] due = {{0, 3, 0}, {0, 4, 1}, {0, 5, 3}, {0, 6, 7}, {0, 999, 7}, {4, 0, 1}, {4, 1, 3}, {5, 0, 2}, {5, 1, 6}, {6, 0, 4},
                    {6, 999, 4}, {7, 0, 0}, {7, 999, 0}};
                for (int[] each : due) {
                    Check.due("on day " + each[0] + " within " + each[1], each[2], () -> aroundDayFive(each[0]).expiringWithin(0, each[1]));
                }
                Check.due("beyond day 9999", 9, () -> Scene.lastDay().expiringWithin(0, 999));
                Check.due("day 9999", 9, () -> Scene.lastDay().expiringWithin(0, 0));
                BatchWarehouse far = Check.loaded("warehouse;product z 1;batch z 5 999 1;batch z 7 1000 1;");
                Check.due("999 days, not 1000", 5, () -> far.expiringWithin(0, 999));
                BatchWarehouse x = aroundDayFive(0);
                x.reserve(0, 7, 4);
                Check.due("reserved or not", 7, () -> x.expiringWithin(0, 6));
            });
        Edges.edge("Throws `IllegalArgumentException` if days is out of range", () -> {
            Edges.unfit(Scene::lastDay, (x, v) -> x.expiringWithin(0, v), -1, 1000);
            Edges.unfit(Scene::bare, (x, v) -> x.expiringWithin(0, v), -1, 1000, Integer.MIN_VALUE, Integer.MAX_VALUE);
        });
    }

    private static void stockValue() throws Exception {
        Edges.section("Promise 17");
        Edges.product((x, v) -> x.stockValue(v));
        Edges.edge("Returns the sum, over its batches, of the on-hand quantity multiplied by the unit cost.", () -> {
            Check.due("no batch", 0, () -> Scene.bare().stockValue(0));
            Check.due("three batches", 421, () -> aroundDayFive(0).stockValue(0));
            Check.due("of the other", 8 * 999, () -> aroundDayFive(0).stockValue(1));
            Check.due("all expired", 421, () -> aroundDayFive(7).stockValue(0));
            Check.due("of 20 full batches", 19980 * 999, () -> Scene.plenty().stockValue(0));
            BatchWarehouse x = aroundDayFive(0);
            x.reserve(0, 7, 4);
            Check.due("reserved or not", 421, () -> x.stockValue(0));
            x.ship(0);
            Check.due("all gone", 0, () -> x.stockValue(0));
        });
    }

    private static void totalValue() throws Exception {
        Edges.section("Promise 18");
        Edges.edge("Returns the sum of the values of all products.", () -> {
            Check.due("nothing", 0, () -> Scene.bare().totalValue());
            Check.due("two products", 421 + 8 * 999, () -> aroundDayFive(0).totalValue());
            Check.due("eight products", 8 * 81, () -> Scene.eight().totalValue());
            Check.due("the greatest", 19980 * 999, () -> Scene.plenty().totalValue());
            BatchWarehouse x = aroundDayFive(7);
            x.writeOffExpired();
            Check.due("all written off", 0, x::totalValue);
        });
    }

    private static void reorderQuantity() throws Exception {
        Edges.section("Promise 19");
        Edges.product((x, v) -> x.reorderQuantity(v));
        Edges.edge("Returns the minimum stock minus the available quantity for the current day, but at least 0.", () -> {
            Check.due("minimum 0, no batch", 0, () -> Scene.bare().reorderQuantity(0));
            Check.due("minimum 999, no batch", 999, () -> Check.loaded("warehouse;product z 999;").reorderQuantity(0));
            int[] due = {2, 2, 2, 2, 2, 3, 5, 9};
            for (int day = 0; day < due.length; day++) {
                int on = day;
                Check.due("on day " + on, due[on], () -> aroundDayFive(on).reorderQuantity(0));
            }
            BatchWarehouse x = aroundDayFive(0);
            x.receive(0, 1, 9, 1);
            Check.due("one below", 1, () -> x.reorderQuantity(0));
            x.receive(0, 1, 9, 1);
            Check.due("just the minimum", 0, () -> x.reorderQuantity(0));
            x.receive(0, 1, 9, 1);
            Check.due("one above", 0, () -> x.reorderQuantity(0));
            x.reserve(0, 10, 4);
            Check.due("all reserved", 9, () -> x.reorderQuantity(0));
            Check.due("far above", 0, () -> Scene.plenty().reorderQuantity(0));
        });
    }

    private static void reorderCount() throws Exception {
        Edges.section("Promise 20");
        Edges.edge("Returns the number of products whose reorder quantity is above 0.", () -> {
            Check.due("minimum 0, no batch", 0, () -> Scene.bare().reorderCount());
            Check.due("minimum 1, no batch", 1, () -> Check.loaded("warehouse;product z 1;").reorderCount());
            BatchWarehouse x = Scene.eight();
            Check.due("none of eight", 0, x::reorderCount);
            x.issue(7, 3);
            Check.due("just the minimum", 0, x::reorderCount);
            x.issue(7, 1);
            Check.due("the eighth", 1, x::reorderCount);
            x.passDays(9);
            Check.due("not on their last day", 1, x::reorderCount);
            x.passDays(1);
            Check.due("all eight", 8, x::reorderCount);
        });
    }
}
