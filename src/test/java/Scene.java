/** Warehouses in states that edges need, each made anew with few calls. */
final class Scene {
    interface Maker {
        BatchWarehouse make();
    }

    private Scene() {
    }

    static BatchWarehouse fresh() {
        return new BatchWarehouse();
    }

    /** One product without a batch. */
    static BatchWarehouse bare() {
        return Check.loaded("warehouse;product z 0;");
    }

    /** The least that has everything: one product, batch and reservation. */
    static BatchWarehouse one() {
        BatchWarehouse x = Check.loaded("warehouse;product z 1;batch z 9 9 9;");
        x.reserve(0, 1, 0);
        return x;
    }

    /** Eight products a to h with a batch and a reservation each. */
    static BatchWarehouse eight() {
        StringBuilder setup = new StringBuilder("warehouse;");
        for (char name = 'a'; name <= 'h'; name++) {
            setup.append("product ").append(name).append(" 5;");
        }
        for (char name = 'a'; name <= 'h'; name++) {
            setup.append("batch ").append(name).append(" 9 9 9;");
        }
        BatchWarehouse x = Check.loaded(setup.toString());
        for (int product = 0; product < 8; product++) {
            x.reserve(product, 1, 0);
        }
        return x;
    }

    /** 20 batches of 9 units, the batch with number b with expiry day b + 1 and unit cost b + 1. */
    static BatchWarehouse twentyBatches() {
        return Check.loaded(textOfBatches(20));
    }

    static String textOfBatches(int count) {
        StringBuilder setup = new StringBuilder("warehouse;product z 0;");
        for (int batch = 1; batch <= count; batch++) {
            setup.append("batch z 9 ").append(batch).append(' ').append(batch).append(';');
        }
        return setup.toString();
    }

    /** 20 batches of 999 units, so that there are enough for the greatest quantity. */
    static BatchWarehouse plenty() {
        return Check.loaded("warehouse;product z 999;" + "batch z 999 99 999;".repeat(20));
    }

    /** A reservation of each number, the one with number r of r + 1 units of rice. */
    static BatchWarehouse tenReservations() {
        BatchWarehouse x = new BatchWarehouse();
        for (int units = 1; units <= 10; units++) {
            x.reserve(1, units, 0);
        }
        return x;
    }

    /** Day 9999, with a batch that lasts until then and one that is expired. */
    static BatchWarehouse lastDay() {
        BatchWarehouse x = Check.loaded("warehouse;product z 3;batch z 9 9999 2;batch z 4 9998 1;");
        for (int round = 0; round < 10; round++) {
            x.passDays(999);
        }
        x.passDays(9);
        return x;
    }

    /**
     * Something of everything: reservations that are open, shipped, cancelled and lack units, batches that are
     * empty and expired, changes to undo, two saved states, an error, an input text and an output text.
     */
    static BatchWarehouse busy() {
        BatchWarehouse x = Check.loaded("warehouse;product milk 20;product rice 50;product z 0;batch milk 30 5 12;"
            + "batch milk 20 3 10;batch rice 100 200 4;batch z 24 9 3;batch milk 7 9 1;");
        x.reserve(0, 22, 2);
        x.reserve(1, 10, 50);
        x.reserve(2, 5, 9);
        x.reserve(0, 4, 5);
        x.ship(1);
        x.cancel(2);
        x.save(0);
        x.issue(1, 3);
        x.takeStock(3, 20);
        x.passDays(4);
        x.writeOffExpired();
        x.save(1);
        x.writeBatches(0);
        x.passDays(3);
        Check.put(x, "ship");
        Check.outcome(x::runScript);
        Check.put(x, "rice");
        return x;
    }
}
