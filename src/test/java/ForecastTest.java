/** Promises 45 to 47: the forecasts. */
public final class ForecastTest {
    public static void main(String[] args) {
        daysUntilShortage();
        wasteWithDemand();
        demandWithoutWaste();
        wrongArguments();
        reservedUnits();
        nothingChanges();
        beyondTheLastDay();
        Check.end("ForecastTest");
    }

    private static void daysUntilShortage() {
        BatchWarehouse x = new BatchWarehouse();
        Check.due("1 a day: the batches expire", 6, () -> x.daysUntilShortage(0, 1));
        Check.due("5 a day", 6, () -> x.daysUntilShortage(0, 5));
        Check.due("8 a day", 6, () -> x.daysUntilShortage(0, 8));
        Check.due("9 a day", 5, () -> x.daysUntilShortage(0, 9));
        Check.due("10 a day", 5, () -> x.daysUntilShortage(0, 10));
        Check.due("11 a day", 4, () -> x.daysUntilShortage(0, 11));
        Check.due("50 a day", 1, () -> x.daysUntilShortage(0, 50));
        Check.due("51 a day", 0, () -> x.daysUntilShortage(0, 51));
        Check.due("999 a day", 0, () -> x.daysUntilShortage(0, 999));
        Check.due("no stock", 0, () -> Check.loaded("warehouse;product z 1;").daysUntilShortage(0, 1));
        String year = "warehouse;product a 1;product b 1;batch a 366 9999 1;batch b 364 9999 1;";
        Check.due("more than a year", 365, () -> Check.loaded(year).daysUntilShortage(0, 1));
        Check.due("a day less than a year", 364, () -> Check.loaded(year).daysUntilShortage(1, 1));
        x.passDays(4);
        Check.due("an expired batch", 2, () -> x.daysUntilShortage(0, 10));
    }

    private static void wasteWithDemand() {
        BatchWarehouse x = new BatchWarehouse();
        Check.due("no day", 0, () -> x.wasteWithDemand(0, 0, 0));
        Check.due("still good on day 3", 0, () -> x.wasteWithDemand(0, 0, 4));
        Check.due("written off on day 4", 20, () -> x.wasteWithDemand(0, 0, 5));
        Check.due("still good on day 5", 20, () -> x.wasteWithDemand(0, 0, 6));
        Check.due("written off on day 6", 50, () -> x.wasteWithDemand(0, 0, 7));
        Check.due("4 a day", 4 + 22, () -> x.wasteWithDemand(0, 4, 365));
        Check.due("5 a day", 20, () -> x.wasteWithDemand(0, 5, 365));
        Check.due("6 a day: the second batch helps out", 14, () -> x.wasteWithDemand(0, 6, 365));
        Check.due("8 a day", 2, () -> x.wasteWithDemand(0, 8, 365));
        Check.due("9 a day", 0, () -> x.wasteWithDemand(0, 9, 365));
        Check.due("999 a day", 0, () -> x.wasteWithDemand(0, 999, 365));
        Check.due("another product", 100, () -> x.wasteWithDemand(1, 0, 202));
        Check.due("another product, a day less", 0, () -> x.wasteWithDemand(1, 0, 201));
        x.passDays(4);
        Check.due("no day, though one is expired", 0, () -> x.wasteWithDemand(0, 9, 0));
        Check.due("expired units go on the first day", 20, () -> x.wasteWithDemand(0, 999, 1));
    }

    private static void demandWithoutWaste() {
        BatchWarehouse x = new BatchWarehouse();
        Check.due("milk", 9, () -> x.demandWithoutWaste(0));
        Check.due("rice", 1, () -> x.demandWithoutWaste(1));
        Check.due("eggs", 3, () -> x.demandWithoutWaste(2));
        Check.due("no batch", 0, () -> Check.loaded("warehouse;product z 1;").demandWithoutWaste(0));
        Check.due("999 on one day", 999, () -> Check.loaded("warehouse;product z 1;batch z 999 0 1;").demandWithoutWaste(0));
        Check.due("1000 on one day", -1,
            () -> Check.loaded("warehouse;product z 1;batch z 999 0 1;batch z 1 0 1;").demandWithoutWaste(0));
        Check.due("1000 on two days", 500,
            () -> Check.loaded("warehouse;product z 1;batch z 999 1 1;batch z 1 1 1;").demandWithoutWaste(0));
        Check.due("would be written off on the last day", 1, () -> Check.loaded("warehouse;product z 1;batch z 1 363 1;").demandWithoutWaste(0));
        Check.due("would be written off later", 0, () -> Check.loaded("warehouse;product z 1;batch z 1 364 1;").demandWithoutWaste(0));
        Check.due("the first batch decides", 10,
            () -> Check.loaded("warehouse;product z 1;batch z 10 0 1;batch z 20 9 1;").demandWithoutWaste(0));
        x.passDays(4);
        Check.due("expired units are waste", -1, () -> x.demandWithoutWaste(0));
        x.writeOffExpired();
        Check.due("written off already", 15, () -> x.demandWithoutWaste(0));
    }

    private static void wrongArguments() {
        BatchWarehouse x = new BatchWarehouse();
        for (int product : new int[] {-1, 3, 8, Integer.MIN_VALUE, Integer.MAX_VALUE}) {
            Check.outside("daysUntilShortage " + product, () -> x.daysUntilShortage(product, 0));
            Check.outside("wasteWithDemand " + product, () -> x.wasteWithDemand(product, -1, -1));
            Check.outside("demandWithoutWaste " + product, () -> x.demandWithoutWaste(product));
        }
        Check.unfit("shortage with 0", () -> x.daysUntilShortage(0, 0));
        Check.unfit("shortage with -1", () -> x.daysUntilShortage(0, -1));
        Check.unfit("shortage with 1000", () -> x.daysUntilShortage(0, 1000));
        Check.unfit("waste with -1", () -> x.wasteWithDemand(0, -1, 0));
        Check.unfit("waste with 1000", () -> x.wasteWithDemand(0, 1000, 0));
        Check.unfit("-1 days", () -> x.wasteWithDemand(0, 0, -1));
        Check.unfit("366 days", () -> x.wasteWithDemand(0, 0, 366));
    }

    private static void reservedUnits() {
        BatchWarehouse x = new BatchWarehouse();
        x.reserve(0, 12, 3);
        Check.due("reserved units meet no demand", 6, () -> x.daysUntilShortage(0, 6));
        Check.due("free units only", 0, () -> x.daysUntilShortage(0, 39));
        Check.due("reserved units are written off", 12, () -> x.wasteWithDemand(0, 38, 365));
        Check.due("whatever the demand is", -1, () -> x.demandWithoutWaste(0));
        x.reserve(1, 100, 9);
        Check.due("but not before they expire", 0, () -> x.wasteWithDemand(1, 0, 201));
        Check.due("all of it later", 100, () -> x.wasteWithDemand(1, 999, 202));
        BatchWarehouse one = new BatchWarehouse();
        one.reserve(0, 1, 3);
        Check.due("one reserved unit is enough", -1, () -> one.demandWithoutWaste(0));
        BatchWarehouse y = Check.loaded("warehouse;product z 1;batch z 5 364 1;");
        y.reserve(0, 5, 0);
        Check.due("reserved beyond the year", 0, () -> y.demandWithoutWaste(0));
    }

    private static void nothingChanges() {
        BatchWarehouse x = new BatchWarehouse();
        x.reserve(0, 12, 3);
        x.daysUntilShortage(0, 7);
        x.wasteWithDemand(0, 7, 365);
        x.demandWithoutWaste(0);
        Check.due("day", 0, x::day);
        Check.due("on hand", 50, () -> x.onHand(0));
        Check.due("reserved", 12, () -> x.reserved(0));
        Check.due("delivered", 0, () -> x.deliveredUnits(0));
        Check.due("written off", 0, () -> x.writtenOffUnits(0));
        Check.due("no change to undo but one", 0, x::undo);
    }

    private static void beyondTheLastDay() {
        BatchWarehouse x = Check.loaded("warehouse;product z 1;batch z 10 9999 1;batch z 4 9998 1;");
        for (int i = 0; i < 10; i++) {
            x.passDays(999);
        }
        x.passDays(7);
        Check.due("day", 9997, x::day);
        Check.due("days go beyond day 9999", 3, () -> x.daysUntilShortage(0, 1));
        Check.due("written off on day 10000", 14, () -> x.wasteWithDemand(0, 0, 4));
        Check.due("not on day 9999", 4, () -> x.wasteWithDemand(0, 0, 3));
        Check.due("least demand", 5, () -> x.demandWithoutWaste(0));
    }
}
