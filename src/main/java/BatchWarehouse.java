import java.util.NoSuchElementException;

/** A warehouse inventory with batches and expiry dates. */
public final class BatchWarehouse {
    /** Returned where there is no product, no batch, no cost or no day. */
    public static final int NONE = -1;

    private static final int MAX_PRODUCTS = 8;
    private static final int MAX_NAME_LETTERS = 6;
    private static final int MAX_MINIMUM = 999;
    private static final int MAX_BATCHES = 20;
    private static final int MAX_BATCH_UNITS = 999;
    private static final int MAX_COST = 999;
    private static final int MAX_RESERVATIONS = 10;
    private static final int MAX_TAKEN_UNITS = 9999;
    private static final int MAX_DAY = 9999;
    private static final int MAX_DAYS_PASSED = 999;
    private static final int MAX_DEMAND = 999;
    private static final int FORECAST_DAYS = 365;
    private static final int UNDO_STEPS = 6;
    private static final int SLOTS = 2;

    private static final int INPUT_BYTES = 600;
    private static final int APPENDED_BYTES = 20;
    // 20 batches of the form 999@9999! with 19 spaces between them
    private static final int OUTPUT_BYTES = 199;

    private static final int MAX_WORD_LETTERS = 9;
    private static final int MAX_DIGITS = 4;
    private static final int MAX_NUMBER = 9999;
    private static final int MAX_COMMANDS = 30;
    private static final int MAX_ARGUMENTS = 4;

    // The kinds of tokens
    private static final int END = 0;
    private static final int WORD = 1;
    private static final int NUMBER = 2;
    private static final int SEMICOLON = 3;
    private static final int INVALID = 4;

    // The error codes of texts
    private static final int BAD_TOKEN = 1;
    private static final int BAD_NUMBER = 2;
    private static final int BAD_NAME = 3;
    private static final int TOO_MANY = 4;

    // The commands of a script
    private static final int RECEIVE = 0;
    private static final int ISSUE = 1;
    private static final int RESERVE = 2;
    private static final int SHIP = 3;
    private static final int CANCEL = 4;
    private static final int REFILL = 5;
    private static final int COUNT = 6;
    private static final int WRITEOFF = 7;
    private static final int DAYS = 8;
    private static final int COMMANDS = 9;

    // The states of a reservation
    private static final int OPEN = 0;
    private static final int SHIPPED = 1;
    private static final int CANCELLED = 2;

    // The answers of whyNotShipped
    private static final int CAN_BE_SHIPPED = 0;
    private static final int NOT_OPEN = 1;
    private static final int UNITS_MISSING = 2;
    private static final int BATCH_EXPIRED = 3;

    // Whether a change is accepted, and if not, which exception it deserves
    private static final int ACCEPTED = 0;
    private static final int NO_SUCH_NUMBER = 1;
    private static final int OUT_OF_RANGE = 2;
    private static final int NOT_POSSIBLE = 3;

    private final Text input = new Text(INPUT_BYTES);
    private final Text output = new Text(OUTPUT_BYTES);
    private final Parser parser = new Parser();
    private final Script script = new Script();
    private final Catalog catalog = new Catalog();
    private final Stock stock = new Stock();
    // A text is parsed into these, so that one with an error changes nothing.
    private final Catalog draftCatalog = new Catalog();
    private final Stock draftStock = new Stock();
    private final History history = new History();
    private final Shelf saved = new Shelf(SLOTS);
    // One order for all calls, so that no call has to make one.
    private final BatchOrder order = new BatchOrder();

    public BatchWarehouse() {
        catalog.addProduct("milk", 20);
        catalog.addProduct("rice", 50);
        catalog.addProduct("eggs", 10);
        stock.addBatch(0, 30, 5, 12);
        stock.addBatch(0, 20, 3, 10);
        stock.addBatch(1, 100, 200, 4);
        stock.addBatch(2, 24, 9, 3);
    }

    // ---- input

    public int append(int a, int b, int c, int d, int e) throws IllegalStateException {
        if (input.length + APPENDED_BYTES > INPUT_BYTES) {
            throw new IllegalStateException("the input buffer has no room for 20 more bytes");
        }
        input.addBytesOf(a);
        input.addBytesOf(b);
        input.addBytesOf(c);
        input.addBytesOf(d);
        input.addBytesOf(e);
        return input.length;
    }

    public int truncate(int length) throws IllegalArgumentException {
        checkRange(length, 0, input.length);
        input.cutTo(length);
        return input.length;
    }

    public int load() throws IllegalArgumentException {
        boolean valid = parser.parseSetup(input, draftCatalog, draftStock);
        input.cutTo(0);
        if (!valid) {
            throw new IllegalArgumentException("the setup text has an error");
        }
        catalog.copyFrom(draftCatalog);
        stock.copyFrom(draftStock);
        saved.empty();
        history.forget();
        return catalog.count;
    }

    public int errorCode() {
        return parser.errorCode;
    }

    public int errorPosition() {
        return parser.errorPosition;
    }

    // ---- products

    public int productCount() {
        return catalog.count;
    }

    public int day() {
        return stock.day;
    }

    public int nameByte(int product, int index) throws IndexOutOfBoundsException {
        checkProduct(product);
        if (isOutside(index, 0, catalog.nameLengths.get(product) - 1)) {
            throw new IndexOutOfBoundsException("the name has no such letter");
        }
        return catalog.letterOf(product, index);
    }

    public int findProduct() throws NoSuchElementException {
        int product = catalog.numberOf(input, 0, input.length);
        if (product == NONE) {
            throw new NoSuchElementException("no product has this name");
        }
        return product;
    }

    public int minimumStock(int product) throws IndexOutOfBoundsException {
        checkProduct(product);
        return catalog.minimums.get(product);
    }

    public int onHand(int product) throws IndexOutOfBoundsException {
        checkProduct(product);
        return stock.unitsOf(product);
    }

    public int reserved(int product) throws IndexOutOfBoundsException {
        checkProduct(product);
        return stock.reservedUnitsOf(product);
    }

    public int availableOn(int product, int day) throws IndexOutOfBoundsException, IllegalArgumentException {
        checkProduct(product);
        checkRange(day, 0, MAX_DAY);
        return stock.availableUnits(product, day);
    }

    public int expired(int product) throws IndexOutOfBoundsException {
        checkProduct(product);
        return stock.unitsExpiringBetween(product, 0, stock.day - 1);
    }

    public int expiringWithin(int product, int days) throws IndexOutOfBoundsException, IllegalArgumentException {
        checkProduct(product);
        checkRange(days, 0, MAX_DAYS_PASSED);
        return stock.unitsExpiringBetween(product, stock.day, stock.day + days);
    }

    public int stockValue(int product) throws IndexOutOfBoundsException {
        checkProduct(product);
        return stock.valueOf(product);
    }

    public int totalValue() {
        int total = 0;
        for (int product = 0; product < catalog.count; product++) {
            total += stock.valueOf(product);
        }
        return total;
    }

    public int reorderQuantity(int product) throws IndexOutOfBoundsException {
        checkProduct(product);
        return unitsToOrder(product);
    }

    public int reorderCount() {
        int products = 0;
        for (int product = 0; product < catalog.count; product++) {
            if (unitsToOrder(product) > 0) {
                products++;
            }
        }
        return products;
    }

    // ---- batches

    public int batchCount() {
        return stock.batches;
    }

    public int productOf(int batch) throws IndexOutOfBoundsException {
        checkBatch(batch);
        return stock.batchProducts.get(batch);
    }

    public int quantity(int batch) throws IndexOutOfBoundsException {
        checkBatch(batch);
        return stock.batchUnits.get(batch);
    }

    public int reservedOf(int batch) throws IndexOutOfBoundsException {
        checkBatch(batch);
        return stock.batchReserved.get(batch);
    }

    public int expiryDay(int batch) throws IndexOutOfBoundsException {
        checkBatch(batch);
        return stock.batchExpiries.get(batch);
    }

    public int unitCost(int batch) throws IndexOutOfBoundsException {
        checkBatch(batch);
        return stock.batchCosts.get(batch);
    }

    public boolean isExpired(int batch) throws IndexOutOfBoundsException {
        checkBatch(batch);
        return stock.hasExpired(batch);
    }

    public int issueOrder(int product, int position) throws IndexOutOfBoundsException {
        checkProduct(product);
        stock.collectIssueOrder(order, product, stock.day);
        return isOutside(position, 0, order.size - 1) ? NONE : order.batches.get(position);
    }

    public int costOfIssue(int product, int quantity) throws IndexOutOfBoundsException, IllegalArgumentException {
        checkProduct(product);
        checkRange(quantity, 1, MAX_TAKEN_UNITS);
        if (stock.availableUnits(product, stock.day) < quantity) {
            return NONE;
        }
        stock.collectIssueOrder(order, product, stock.day);
        return stock.costOfTaking(order, quantity);
    }

    // ---- reservations

    public int reservationCount() {
        return stock.reservations;
    }

    public int reservedProduct(int reservation) throws IndexOutOfBoundsException {
        checkReservation(reservation);
        return stock.reservationProducts.get(reservation);
    }

    public int reservedQuantity(int reservation) throws IndexOutOfBoundsException {
        checkReservation(reservation);
        return stock.reservationUnits.get(reservation);
    }

    public boolean isOpen(int reservation) throws IndexOutOfBoundsException {
        checkReservation(reservation);
        return stock.isPending(reservation);
    }

    public int missing(int reservation) throws IndexOutOfBoundsException {
        checkReservation(reservation);
        return stock.missingUnits(reservation);
    }

    public int allocation(int reservation, int batch) throws IndexOutOfBoundsException {
        checkReservation(reservation);
        checkBatch(batch);
        return stock.allocatedUnits(reservation, batch);
    }

    public int whyNotShipped(int reservation) throws IndexOutOfBoundsException {
        checkReservation(reservation);
        return stock.shippingObstacle(reservation);
    }

    public int endangeredReservations() {
        int endangered = 0;
        for (int reservation = 0; reservation < stock.reservations; reservation++) {
            if (stock.isEndangered(reservation)) {
                endangered++;
            }
        }
        return endangered;
    }

    // ---- accounts

    public int receivedUnits(int product) throws IndexOutOfBoundsException {
        checkProduct(product);
        return stock.received.get(product);
    }

    public int deliveredUnits(int product) throws IndexOutOfBoundsException {
        checkProduct(product);
        return stock.issued.get(product) + stock.shipped.get(product);
    }

    public int writtenOffUnits(int product) throws IndexOutOfBoundsException {
        checkProduct(product);
        return stock.writtenOff.get(product);
    }

    public int adjustment(int product) throws IndexOutOfBoundsException {
        checkProduct(product);
        return stock.adjusted.get(product);
    }

    public double meanCost(int product) throws IndexOutOfBoundsException {
        checkProduct(product);
        int units = stock.unitsOf(product);
        return units == 0 ? 0.0 : (double) stock.valueOf(product) / (double) units;
    }

    public float wasteShare(int product) throws IndexOutOfBoundsException {
        checkProduct(product);
        int received = stock.received.get(product);
        return received == 0 ? 0.0f : (float) stock.writtenOff.get(product) / (float) received;
    }

    public int inconsistencies() {
        int wrong = 0;
        for (int product = 0; product < catalog.count; product++) {
            if (stock.unitsOf(product) != stock.unitsByAccounts(product)) {
                wrong++;
            }
        }
        for (int batch = 0; batch < stock.batches; batch++) {
            if (stock.freeUnitsIn(batch) < 0) {
                wrong++;
            }
        }
        return wrong;
    }

    // ---- forecasts (nothing changes)

    public int daysUntilShortage(int product, int demand) throws IndexOutOfBoundsException, IllegalArgumentException {
        checkProduct(product);
        checkRange(demand, 1, MAX_DEMAND);
        return stock.daysMet(order, product, demand);
    }

    public int wasteWithDemand(int product, int demand, int days) throws IndexOutOfBoundsException, IllegalArgumentException {
        checkProduct(product);
        checkRange(demand, 0, MAX_DEMAND);
        checkRange(days, 0, FORECAST_DAYS);
        return stock.wastedUnits(order, product, demand, days);
    }

    public int demandWithoutWaste(int product) throws IndexOutOfBoundsException {
        checkProduct(product);
        return stock.leastDemandWithoutWaste(order, product);
    }

    // ---- changes

    public int receive(int product, int quantity, int expiry, int cost) throws IndexOutOfBoundsException, IllegalArgumentException, IllegalStateException {
        refuse(refusalOfReceive(product, quantity, expiry, cost));
        history.remember(stock);
        return stock.addBatch(product, quantity, expiry, cost);
    }

    public int issue(int product, int quantity) throws IndexOutOfBoundsException, IllegalArgumentException, IllegalStateException {
        refuse(refusalOfIssue(product, quantity));
        history.remember(stock);
        return stock.issueUnits(order, product, quantity);
    }

    public int reserve(int product, int quantity, int day) throws IndexOutOfBoundsException, IllegalArgumentException, IllegalStateException {
        refuse(refusalOfReserve(product, quantity, day));
        history.remember(stock);
        return stock.addReservation(order, product, quantity, day);
    }

    public int ship(int reservation) throws IndexOutOfBoundsException, IllegalStateException {
        refuse(refusalOfShip(reservation));
        history.remember(stock);
        return stock.shipReservation(reservation);
    }

    public int cancel(int reservation) throws IndexOutOfBoundsException, IllegalStateException {
        refuse(refusalOfOpenOnly(reservation));
        history.remember(stock);
        return stock.cancelReservation(reservation);
    }

    public int refill(int reservation) throws IndexOutOfBoundsException, IllegalStateException {
        refuse(refusalOfOpenOnly(reservation));
        history.remember(stock);
        return stock.refillReservation(order, reservation);
    }

    public int takeStock(int batch, int counted) throws IndexOutOfBoundsException, IllegalArgumentException, IllegalStateException {
        refuse(refusalOfCount(batch, counted));
        history.remember(stock);
        return stock.countBatch(batch, counted);
    }

    public int writeOffExpired() {
        history.remember(stock);
        return stock.writeOffExpiredBatches();
    }

    public int passDays(int days) throws IllegalArgumentException, IllegalStateException {
        refuse(refusalOfDays(days));
        history.remember(stock);
        return stock.advance(days);
    }

    public int runScript() throws IllegalArgumentException {
        boolean valid = parser.parseScript(input, catalog, script);
        input.cutTo(0);
        if (!valid) {
            throw new IllegalArgumentException("the script has an error");
        }
        history.remember(stock);
        for (int place = 0; place < script.size; place++) {
            if (refusalOfCommand(place) != ACCEPTED) {
                return place;
            }
            performCommand(place);
        }
        return script.size;
    }

    // ---- undo, saved states, output

    public int undo() throws IllegalStateException {
        if (history.count == 0) {
            throw new IllegalStateException("there is no change to undo");
        }
        history.stepBack(stock);
        return history.count;
    }

    public int save(int slot) throws IndexOutOfBoundsException {
        checkSlot(slot);
        saved.store(slot, stock);
        return stock.day;
    }

    public int restore(int slot) throws IndexOutOfBoundsException, IllegalStateException {
        checkSlot(slot);
        if (!saved.holds(slot)) {
            throw new IllegalStateException("nothing is saved in the slot");
        }
        saved.fetch(slot, stock);
        history.forget();
        return stock.day;
    }

    public int writeBatches(int product) throws IndexOutOfBoundsException {
        checkProduct(product);
        output.cutTo(0);
        stock.collectInStock(order, product);
        for (int place = 0; place < order.size; place++) {
            if (place > 0) {
                output.addByte(' ');
            }
            writeBatch(order.batches.get(place));
        }
        return output.length;
    }

    public int outputByte(int index) throws IndexOutOfBoundsException {
        if (isOutside(index, 0, output.length - 1)) {
            throw new IndexOutOfBoundsException("the output text has no such byte");
        }
        return output.byteAt(index);
    }

    // ---- what the calls share

    private static boolean isOutside(int value, int least, int greatest) {
        return value < least || value > greatest;
    }

    private static void checkRange(int value, int least, int greatest) {
        if (isOutside(value, least, greatest)) {
            throw new IllegalArgumentException("an argument is out of range");
        }
    }

    private void checkProduct(int product) {
        if (!catalog.hasProduct(product)) {
            throw new IndexOutOfBoundsException("the product does not exist");
        }
    }

    private void checkBatch(int batch) {
        if (!stock.hasBatch(batch)) {
            throw new IndexOutOfBoundsException("the batch does not exist");
        }
    }

    private void checkReservation(int reservation) {
        if (!stock.hasReservation(reservation)) {
            throw new IndexOutOfBoundsException("the reservation does not exist");
        }
    }

    private static void checkSlot(int slot) {
        if (isOutside(slot, 0, SLOTS - 1)) {
            throw new IndexOutOfBoundsException("the slot does not exist");
        }
    }

    private int unitsToOrder(int product) {
        int wanting = catalog.minimums.get(product) - stock.availableUnits(product, stock.day);
        return Math.max(0, wanting);
    }

    private void writeBatch(int batch) {
        output.addNumber(stock.batchUnits.get(batch));
        output.addByte('@');
        output.addNumber(stock.batchExpiries.get(batch));
        if (stock.hasExpired(batch)) {
            output.addByte('!');
        }
    }

    // ---- whether a change is accepted

    private static void refuse(int refusal) {
        if (refusal == NO_SUCH_NUMBER) {
            throw new IndexOutOfBoundsException("there is nothing with this number");
        }
        if (refusal == OUT_OF_RANGE) {
            throw new IllegalArgumentException("an argument is out of range");
        }
        if (refusal == NOT_POSSIBLE) {
            throw new IllegalStateException("the state does not allow this change");
        }
    }

    private int refusalOfReceive(int product, int quantity, int expiry, int cost) {
        if (!catalog.hasProduct(product)) {
            return NO_SUCH_NUMBER;
        }
        if (isOutside(quantity, 1, MAX_BATCH_UNITS) || isOutside(expiry, 0, MAX_DAY) || isOutside(cost, 1, MAX_COST)) {
            return OUT_OF_RANGE;
        }
        return stock.batches < MAX_BATCHES ? ACCEPTED : NOT_POSSIBLE;
    }

    private int refusalOfIssue(int product, int quantity) {
        if (!catalog.hasProduct(product)) {
            return NO_SUCH_NUMBER;
        }
        if (isOutside(quantity, 1, MAX_TAKEN_UNITS)) {
            return OUT_OF_RANGE;
        }
        return stock.availableUnits(product, stock.day) >= quantity ? ACCEPTED : NOT_POSSIBLE;
    }

    private int refusalOfReserve(int product, int quantity, int day) {
        if (!catalog.hasProduct(product)) {
            return NO_SUCH_NUMBER;
        }
        if (isOutside(quantity, 1, MAX_TAKEN_UNITS) || isOutside(day, stock.day, MAX_DAY)) {
            return OUT_OF_RANGE;
        }
        boolean possible = stock.reservations < MAX_RESERVATIONS && stock.availableUnits(product, day) >= quantity;
        return possible ? ACCEPTED : NOT_POSSIBLE;
    }

    private int refusalOfShip(int reservation) {
        if (!stock.hasReservation(reservation)) {
            return NO_SUCH_NUMBER;
        }
        return stock.shippingObstacle(reservation) == CAN_BE_SHIPPED ? ACCEPTED : NOT_POSSIBLE;
    }

    private int refusalOfOpenOnly(int reservation) {
        if (!stock.hasReservation(reservation)) {
            return NO_SUCH_NUMBER;
        }
        return stock.isPending(reservation) ? ACCEPTED : NOT_POSSIBLE;
    }

    private int refusalOfCount(int batch, int counted) {
        if (!stock.hasBatch(batch)) {
            return NO_SUCH_NUMBER;
        }
        if (isOutside(counted, 0, MAX_BATCH_UNITS)) {
            return OUT_OF_RANGE;
        }
        return counted >= stock.batchReserved.get(batch) ? ACCEPTED : NOT_POSSIBLE;
    }

    private int refusalOfDays(int days) {
        if (isOutside(days, 1, MAX_DAYS_PASSED)) {
            return OUT_OF_RANGE;
        }
        return stock.day + days <= MAX_DAY ? ACCEPTED : NOT_POSSIBLE;
    }

    // ---- the commands of a script

    private static String wordOfCommand(int command) {
        switch (command) {
            case RECEIVE: return "receive";
            case ISSUE: return "issue";
            case RESERVE: return "reserve";
            case SHIP: return "ship";
            case CANCEL: return "cancel";
            case REFILL: return "refill";
            case COUNT: return "count";
            case WRITEOFF: return "writeoff";
            default: return "days";
        }
    }

    private static boolean namesProduct(int command) {
        return command == RECEIVE || command == ISSUE || command == RESERVE;
    }

    private static int numbersIn(int command) {
        switch (command) {
            case RECEIVE: return 3;
            case RESERVE: return 2;
            case COUNT: return 2;
            case WRITEOFF: return 0;
            default: return 1;
        }
    }

    private int refusalOfCommand(int place) {
        int first = script.argument(place, 0);
        int second = script.argument(place, 1);
        int third = script.argument(place, 2);
        switch (script.commands.get(place)) {
            case RECEIVE: return refusalOfReceive(first, second, third, script.argument(place, 3));
            case ISSUE: return refusalOfIssue(first, second);
            case RESERVE: return refusalOfReserve(first, second, third);
            case SHIP: return refusalOfShip(first);
            case CANCEL: return refusalOfOpenOnly(first);
            case REFILL: return refusalOfOpenOnly(first);
            case COUNT: return refusalOfCount(first, second);
            case DAYS: return refusalOfDays(first);
            default: return ACCEPTED;
        }
    }

    private void performCommand(int place) {
        int first = script.argument(place, 0);
        int second = script.argument(place, 1);
        int third = script.argument(place, 2);
        switch (script.commands.get(place)) {
            case RECEIVE: stock.addBatch(first, second, third, script.argument(place, 3)); break;
            case ISSUE: stock.issueUnits(order, first, second); break;
            case RESERVE: stock.addReservation(order, first, second, third); break;
            case SHIP: stock.shipReservation(first); break;
            case CANCEL: stock.cancelReservation(first); break;
            case REFILL: stock.refillReservation(order, first); break;
            case COUNT: stock.countBatch(first, second); break;
            case DAYS: stock.advance(first); break;
            default: stock.writeOffExpiredBatches(); break;
        }
    }

    /** A row of numbers that looks at every index, so that none can make the machine throw. */
    private static final class Row {
        private final int[] cells;

        Row(int length) {
            cells = new int[Math.max(0, length)];
        }

        int get(int index) {
            return index >= 0 && index < cells.length ? cells[index] : 0;
        }

        void put(int index, int value) {
            if (index >= 0 && index < cells.length) {
                cells[index] = value;
            }
        }

        void add(int index, int value) {
            if (index >= 0 && index < cells.length) {
                cells[index] += value;
            }
        }

        void zero() {
            for (int index = 0; index < cells.length; index++) {
                cells[index] = 0;
            }
        }

        void copyFrom(Row other) {
            System.arraycopy(other.cells, 0, cells, 0, Math.min(other.cells.length, cells.length));
        }
    }

    /** A text of bytes that has room for a fixed number of them. */
    private static final class Text {
        private final byte[] bytes;
        private int length;

        Text(int capacity) {
            bytes = new byte[Math.max(0, capacity)];
        }

        /** The byte at the index, or NONE where the text has none. */
        int byteAt(int index) {
            return index >= 0 && index < length && index < bytes.length ? bytes[index] & 255 : NONE;
        }

        void addByte(int value) {
            if (length >= 0 && length < bytes.length) {
                bytes[length] = (byte) value;
                length++;
            }
        }

        void addBytesOf(int four) {
            addByte(four >>> 24);
            addByte(four >>> 16);
            addByte(four >>> 8);
            addByte(four);
        }

        /** Adds a number of 0 to 9999 in decimal. */
        void addNumber(int number) {
            for (int unit = 1000; unit >= 1; unit /= 10) {
                if (number >= unit || unit == 1) {
                    addByte('0' + number / unit % 10);
                }
            }
        }

        void cutTo(int newLength) {
            length = Math.max(0, Math.min(length, newLength));
        }
    }

    /** The products; only a setup changes them, so undo and saved states do not concern them. */
    private static final class Catalog {
        private int count;
        private final Row letters = new Row(MAX_PRODUCTS * MAX_NAME_LETTERS);
        private final Row nameLengths = new Row(MAX_PRODUCTS);
        private final Row minimums = new Row(MAX_PRODUCTS);

        void empty() {
            count = 0;
        }

        void copyFrom(Catalog other) {
            count = other.count;
            letters.copyFrom(other.letters);
            nameLengths.copyFrom(other.nameLengths);
            minimums.copyFrom(other.minimums);
        }

        boolean hasProduct(int product) {
            return product >= 0 && product < count;
        }

        void addProduct(String name, int minimum) {
            addNameless();
            for (int index = 0; index < name.length(); index++) {
                addLetter(name.charAt(index));
            }
            setMinimum(minimum);
        }

        /** Adds a product whose letters and minimum stock follow. */
        void addNameless() {
            if (count < MAX_PRODUCTS) {
                nameLengths.put(count, 0);
                minimums.put(count, 0);
                count++;
            }
        }

        void addLetter(int letter) {
            int newest = count - 1;
            int length = nameLengths.get(newest);
            if (length < MAX_NAME_LETTERS) {
                letters.put(newest * MAX_NAME_LETTERS + length, letter);
                nameLengths.put(newest, length + 1);
            }
        }

        void setMinimum(int minimum) {
            minimums.put(count - 1, minimum);
        }

        int letterOf(int product, int index) {
            return letters.get(product * MAX_NAME_LETTERS + index);
        }

        /** The product with the name that stands in the text, or NONE. */
        int numberOf(Text text, int start, int length) {
            for (int product = 0; product < count; product++) {
                if (nameLengths.get(product) == length && hasLetters(product, text, start)) {
                    return product;
                }
            }
            return NONE;
        }

        private boolean hasLetters(int product, Text text, int start) {
            for (int index = 0; index < nameLengths.get(product); index++) {
                if (letters.get(product * MAX_NAME_LETTERS + index) != text.byteAt(start + index)) {
                    return false;
                }
            }
            return true;
        }
    }

    /** All that undo and saved states concern: the day, the batches, the reservations and the accounts. */
    private static final class Stock {
        private int day;

        private int batches;
        private final Row batchProducts = new Row(MAX_BATCHES);
        private final Row batchUnits = new Row(MAX_BATCHES);
        private final Row batchReserved = new Row(MAX_BATCHES);
        private final Row batchExpiries = new Row(MAX_BATCHES);
        private final Row batchCosts = new Row(MAX_BATCHES);

        private int reservations;
        private final Row reservationProducts = new Row(MAX_RESERVATIONS);
        private final Row reservationUnits = new Row(MAX_RESERVATIONS);
        private final Row shippingDays = new Row(MAX_RESERVATIONS);
        private final Row reservationStates = new Row(MAX_RESERVATIONS);
        // Those of a closed reservation stay as a record; they reserve nothing.
        private final Row allocations = new Row(MAX_RESERVATIONS * MAX_BATCHES);

        private final Row received = new Row(MAX_PRODUCTS);
        private final Row issued = new Row(MAX_PRODUCTS);
        private final Row shipped = new Row(MAX_PRODUCTS);
        private final Row writtenOff = new Row(MAX_PRODUCTS);
        private final Row adjusted = new Row(MAX_PRODUCTS);

        void empty() {
            day = 0;
            batches = 0;
            reservations = 0;
            received.zero();
            issued.zero();
            shipped.zero();
            writtenOff.zero();
            adjusted.zero();
        }

        void copyFrom(Stock other) {
            day = other.day;
            batches = other.batches;
            batchProducts.copyFrom(other.batchProducts);
            batchUnits.copyFrom(other.batchUnits);
            batchReserved.copyFrom(other.batchReserved);
            batchExpiries.copyFrom(other.batchExpiries);
            batchCosts.copyFrom(other.batchCosts);
            reservations = other.reservations;
            reservationProducts.copyFrom(other.reservationProducts);
            reservationUnits.copyFrom(other.reservationUnits);
            shippingDays.copyFrom(other.shippingDays);
            reservationStates.copyFrom(other.reservationStates);
            allocations.copyFrom(other.allocations);
            received.copyFrom(other.received);
            issued.copyFrom(other.issued);
            shipped.copyFrom(other.shipped);
            writtenOff.copyFrom(other.writtenOff);
            adjusted.copyFrom(other.adjusted);
        }

        // batches

        boolean hasBatch(int batch) {
            return batch >= 0 && batch < batches;
        }

        boolean hasExpired(int batch) {
            return batchExpiries.get(batch) < day;
        }

        private boolean isOf(int batch, int product) {
            return batchProducts.get(batch) == product;
        }

        private boolean lastsUntil(int batch, int lastDay) {
            return batchExpiries.get(batch) >= lastDay;
        }

        int freeUnitsIn(int batch) {
            return batchUnits.get(batch) - batchReserved.get(batch);
        }

        void collectIssueOrder(BatchOrder order, int product, int neededDay) {
            order.empty();
            for (int batch = 0; batch < batches; batch++) {
                if (isOf(batch, product) && lastsUntil(batch, neededDay) && freeUnitsIn(batch) > 0) {
                    order.insert(batch, batchExpiries.get(batch));
                }
            }
        }

        void collectInStock(BatchOrder order, int product) {
            order.empty();
            for (int batch = 0; batch < batches; batch++) {
                if (isOf(batch, product) && batchUnits.get(batch) > 0) {
                    order.insert(batch, batchExpiries.get(batch));
                }
            }
        }

        /** The cost of a quantity taken in the order, which must have enough. */
        int costOfTaking(BatchOrder order, int quantity) {
            int cost = 0;
            int left = quantity;
            for (int place = 0; place < order.size && left > 0; place++) {
                int batch = order.batches.get(place);
                int taken = Math.min(left, freeUnitsIn(batch));
                cost += taken * batchCosts.get(batch);
                left -= taken;
            }
            return cost;
        }

        // sums over the batches of a product

        int unitsOf(int product) {
            int units = 0;
            for (int batch = 0; batch < batches; batch++) {
                if (isOf(batch, product)) {
                    units += batchUnits.get(batch);
                }
            }
            return units;
        }

        int unitsExpiringBetween(int product, int firstDay, int lastDay) {
            int units = 0;
            for (int batch = 0; batch < batches; batch++) {
                if (isOf(batch, product) && lastsUntil(batch, firstDay) && batchExpiries.get(batch) <= lastDay) {
                    units += batchUnits.get(batch);
                }
            }
            return units;
        }

        int reservedUnitsOf(int product) {
            int units = 0;
            for (int batch = 0; batch < batches; batch++) {
                if (isOf(batch, product)) {
                    units += batchReserved.get(batch);
                }
            }
            return units;
        }

        int availableUnits(int product, int neededDay) {
            int units = 0;
            for (int batch = 0; batch < batches; batch++) {
                if (isOf(batch, product) && lastsUntil(batch, neededDay)) {
                    units += freeUnitsIn(batch);
                }
            }
            return units;
        }

        int valueOf(int product) {
            int value = 0;
            for (int batch = 0; batch < batches; batch++) {
                if (isOf(batch, product)) {
                    value += batchUnits.get(batch) * batchCosts.get(batch);
                }
            }
            return value;
        }

        int unitsByAccounts(int product) {
            int gone = issued.get(product) + shipped.get(product) + writtenOff.get(product);
            return received.get(product) - gone + adjusted.get(product);
        }

        // reservations

        boolean hasReservation(int reservation) {
            return reservation >= 0 && reservation < reservations;
        }

        boolean isPending(int reservation) {
            return reservationStates.get(reservation) == OPEN;
        }

        int allocatedUnits(int reservation, int batch) {
            return allocations.get(reservation * MAX_BATCHES + batch);
        }

        int missingUnits(int reservation) {
            return isPending(reservation) ? reservationUnits.get(reservation) - allUnitsAllocated(reservation) : 0;
        }

        int shippingObstacle(int reservation) {
            if (!isPending(reservation)) {
                return NOT_OPEN;
            }
            if (missingUnits(reservation) > 0) {
                return UNITS_MISSING;
            }
            return holdsExpiringBefore(reservation, day) ? BATCH_EXPIRED : CAN_BE_SHIPPED;
        }

        boolean isEndangered(int reservation) {
            int neededDay = Math.max(shippingDays.get(reservation), day);
            return isPending(reservation) && holdsExpiringBefore(reservation, neededDay);
        }

        private boolean holdsExpiringBefore(int reservation, int neededDay) {
            for (int batch = 0; batch < batches; batch++) {
                if (allocatedUnits(reservation, batch) > 0 && !lastsUntil(batch, neededDay)) {
                    return true;
                }
            }
            return false;
        }

        private int allUnitsAllocated(int reservation) {
            int units = 0;
            for (int batch = 0; batch < batches; batch++) {
                units += allocations.get(reservation * MAX_BATCHES + batch);
            }
            return units;
        }

        // changes, which the caller has found possible

        int addBatch(int product, int quantity, int expiry, int cost) {
            int batch = batches;
            batchProducts.put(batch, product);
            batchUnits.put(batch, quantity);
            batchReserved.put(batch, 0);
            batchExpiries.put(batch, expiry);
            batchCosts.put(batch, cost);
            batches++;
            received.add(product, quantity);
            return batch;
        }

        int issueUnits(BatchOrder order, int product, int quantity) {
            collectIssueOrder(order, product, day);
            int cost = costOfTaking(order, quantity);
            int left = quantity;
            for (int place = 0; place < order.size && left > 0; place++) {
                int batch = order.batches.get(place);
                int taken = Math.min(left, freeUnitsIn(batch));
                batchUnits.add(batch, -taken);
                left -= taken;
            }
            issued.add(product, quantity);
            return cost;
        }

        int addReservation(BatchOrder order, int product, int quantity, int shippingDay) {
            int reservation = reservations;
            reservationProducts.put(reservation, product);
            reservationUnits.put(reservation, quantity);
            shippingDays.put(reservation, shippingDay);
            reservationStates.put(reservation, OPEN);
            for (int batch = 0; batch < MAX_BATCHES; batch++) {
                allocations.put(reservation * MAX_BATCHES + batch, 0);
            }
            reservations++;
            refillReservation(order, reservation);
            return reservation;
        }

        int refillReservation(BatchOrder order, int reservation) {
            int neededDay = Math.max(shippingDays.get(reservation), day);
            collectIssueOrder(order, reservationProducts.get(reservation), neededDay);
            int lacking = missingUnits(reservation);
            int left = lacking;
            for (int place = 0; place < order.size && left > 0; place++) {
                int batch = order.batches.get(place);
                int taken = Math.min(left, freeUnitsIn(batch));
                allocations.add(reservation * MAX_BATCHES + batch, taken);
                batchReserved.add(batch, taken);
                left -= taken;
            }
            return lacking - left;
        }

        int shipReservation(int reservation) {
            int cost = 0;
            for (int batch = 0; batch < batches; batch++) {
                int units = allocatedUnits(reservation, batch);
                batchUnits.add(batch, -units);
                cost += units * batchCosts.get(batch);
            }
            shipped.add(reservationProducts.get(reservation), allUnitsAllocated(reservation));
            close(reservation, SHIPPED);
            return cost;
        }

        int cancelReservation(int reservation) {
            close(reservation, CANCELLED);
            return allUnitsAllocated(reservation);
        }

        private void close(int reservation, int state) {
            reservationStates.put(reservation, state);
            for (int batch = 0; batch < batches; batch++) {
                batchReserved.add(batch, -allocatedUnits(reservation, batch));
            }
        }

        int countBatch(int batch, int counted) {
            int difference = counted - batchUnits.get(batch);
            batchUnits.put(batch, counted);
            adjusted.add(batchProducts.get(batch), difference);
            return difference;
        }

        int writeOffExpiredBatches() {
            int units = 0;
            for (int batch = 0; batch < batches; batch++) {
                if (hasExpired(batch)) {
                    units += batchUnits.get(batch);
                    writeOff(batch);
                }
            }
            return units;
        }

        private void writeOff(int batch) {
            writtenOff.add(batchProducts.get(batch), batchUnits.get(batch));
            batchUnits.put(batch, 0);
            batchReserved.put(batch, 0);
            for (int reservation = 0; reservation < reservations; reservation++) {
                if (isPending(reservation)) {
                    allocations.put(reservation * MAX_BATCHES + batch, 0);
                }
            }
        }

        int advance(int days) {
            int before = day;
            day += days;
            int newlyExpired = 0;
            for (int batch = 0; batch < batches; batch++) {
                if (batchUnits.get(batch) > 0 && batchExpiries.get(batch) >= before && hasExpired(batch)) {
                    newlyExpired++;
                }
            }
            return newlyExpired;
        }

        // Forecasts. All stock is there from the start and the batch that expires
        // first is taken first. So a batch can be taken from until it expires, with
        // all the demand up to then that the batches ahead of it did not meet; and
        // a day's demand is not met only when no free unit is left for any later day.
        // That is why no day has to be simulated.

        private int daysOnSale(int batch) {
            return Math.max(0, batchExpiries.get(batch) - day + 1);
        }

        private int takenInTime(int batch, int demand, int takenAhead) {
            int wanted = demand * daysOnSale(batch) - takenAhead;
            return Math.max(0, Math.min(wanted, freeUnitsIn(batch)));
        }

        int daysMet(BatchOrder order, int product, int demand) {
            collectIssueOrder(order, product, day);
            int taken = 0;
            for (int place = 0; place < order.size; place++) {
                taken += takenInTime(order.batches.get(place), demand, taken);
            }
            return demand > 0 ? Math.min(FORECAST_DAYS, taken / demand) : FORECAST_DAYS;
        }

        int wastedUnits(BatchOrder order, int product, int demand, int days) {
            collectInStock(order, product);
            int taken = 0;
            int wasted = 0;
            for (int place = 0; place < order.size; place++) {
                int batch = order.batches.get(place);
                int takenHere = takenInTime(batch, demand, taken);
                taken += takenHere;
                // The write-off comes on the day after the last one on sale.
                if (daysOnSale(batch) < days) {
                    wasted += batchUnits.get(batch) - takenHere;
                }
            }
            return wasted;
        }

        int leastDemandWithoutWaste(BatchOrder order, int product) {
            collectInStock(order, product);
            int least = 0;
            int units = 0;
            for (int place = 0; place < order.size; place++) {
                int batch = order.batches.get(place);
                int days = daysOnSale(batch);
                if (days >= FORECAST_DAYS) {
                    break;
                }
                if (days <= 0 || batchReserved.get(batch) > 0) {
                    return NONE;
                }
                units += batchUnits.get(batch);
                int roundedUp = (units + days - 1) / days;
                least = Math.max(least, roundedUp);
            }
            return least <= MAX_DEMAND ? least : NONE;
        }
    }

    /** Batches by ascending expiry day; those with equal expiry days as they were inserted. */
    private static final class BatchOrder {
        private int size;
        private final Row batches = new Row(MAX_BATCHES);
        private final Row expiries = new Row(MAX_BATCHES);

        void empty() {
            size = 0;
        }

        void insert(int batch, int expiry) {
            int place = size;
            while (place > 0 && expiries.get(place - 1) > expiry) {
                batches.put(place, batches.get(place - 1));
                expiries.put(place, expiries.get(place - 1));
                place--;
            }
            batches.put(place, batch);
            expiries.put(place, expiry);
            size++;
        }
    }

    /** Places that each hold a copy of a stock. */
    private static final class Shelf {
        private final Stock[] copies;
        private final Row filled;

        Shelf(int places) {
            copies = new Stock[Math.max(0, places)];
            filled = new Row(places);
            for (int place = 0; place < copies.length; place++) {
                copies[place] = new Stock();
            }
        }

        void empty() {
            filled.zero();
        }

        boolean holds(int place) {
            return filled.get(place) == 1;
        }

        void store(int place, Stock stock) {
            if (place >= 0 && place < copies.length && copies[place] != null) {
                copies[place].copyFrom(stock);
                filled.put(place, 1);
            }
        }

        void fetch(int place, Stock stock) {
            if (place >= 0 && place < copies.length && copies[place] != null) {
                stock.copyFrom(copies[place]);
            }
        }
    }

    /** The stock before each of the latest changes. */
    private static final class History {
        private final Shelf steps = new Shelf(UNDO_STEPS);
        private int next;
        private int count;

        void forget() {
            count = 0;
        }

        void remember(Stock stock) {
            steps.store(next, stock);
            next = (next + 1) % UNDO_STEPS;
            count = Math.min(UNDO_STEPS, count + 1);
        }

        void stepBack(Stock stock) {
            if (count > 0) {
                next = (next + UNDO_STEPS - 1) % UNDO_STEPS;
                count--;
                steps.fetch(next, stock);
            }
        }
    }

    /** The commands of a script text, each with its numbers in the order in which its method takes them. */
    private static final class Script {
        private int size;
        private int argumentsOfNewest;
        private final Row commands = new Row(MAX_COMMANDS);
        private final Row arguments = new Row(MAX_COMMANDS * MAX_ARGUMENTS);

        void empty() {
            size = 0;
        }

        void addCommand(int command) {
            if (size < MAX_COMMANDS) {
                commands.put(size, command);
                size++;
                argumentsOfNewest = 0;
            }
        }

        void addArgument(int value) {
            if (argumentsOfNewest < MAX_ARGUMENTS) {
                arguments.put((size - 1) * MAX_ARGUMENTS + argumentsOfNewest, value);
                argumentsOfNewest++;
            }
        }

        int argument(int place, int index) {
            return arguments.get(place * MAX_ARGUMENTS + index);
        }
    }

    /** Cuts a text into tokens and holds the one that is next. */
    private static final class Tokens {
        private Text text = new Text(0);
        private int kind;
        private int start;
        private int end;
        private int value;

        void startWith(Text source) {
            text = source;
            end = 0;
            readToken();
        }

        void readToken() {
            while (end < text.length && isSpace(text.byteAt(end))) {
                end++;
            }
            start = end;
            int first = text.byteAt(start);
            if (first == NONE) {
                kind = END;
            } else if (isLetter(first)) {
                readWord();
            } else if (isDigit(first)) {
                readNumber();
            } else {
                end++;
                kind = first == ';' ? SEMICOLON : INVALID;
            }
        }

        private void readWord() {
            while (end < text.length && isLetter(text.byteAt(end))) {
                end++;
            }
            kind = size() <= MAX_WORD_LETTERS ? WORD : INVALID;
        }

        private void readNumber() {
            value = 0;
            while (end < text.length && isDigit(text.byteAt(end))) {
                value = value * 10 + text.byteAt(end) - '0';
                end++;
            }
            kind = size() <= MAX_DIGITS ? NUMBER : INVALID;
        }

        int size() {
            return end - start;
        }

        boolean isWord(String word) {
            if (kind != WORD || size() != word.length()) {
                return false;
            }
            for (int index = 0; index < word.length(); index++) {
                if (text.byteAt(start + index) != word.charAt(index)) {
                    return false;
                }
            }
            return true;
        }

        private static boolean isSpace(int value) {
            return value == ' ' || value == '\n';
        }

        private static boolean isLetter(int value) {
            return value >= 'a' && value <= 'z';
        }

        private static boolean isDigit(int value) {
            return value >= '0' && value <= '9';
        }
    }

    /** Parses texts and keeps the error of the latest one. */
    private static final class Parser {
        private final Tokens tokens = new Tokens();
        private int errorCode;
        private int errorPosition = NONE;

        boolean parseSetup(Text text, Catalog catalog, Stock stock) {
            begin(text);
            catalog.empty();
            stock.empty();
            if (!takeWord("warehouse") || !takeSemicolon() || !takeProduct(catalog)) {
                return false;
            }
            for (int products = 1; products < MAX_PRODUCTS && tokens.isWord("product"); products++) {
                if (!takeProduct(catalog)) {
                    return false;
                }
            }
            if (tokens.isWord("product")) {
                return fail(TOO_MANY);
            }
            for (int batches = 0; batches < MAX_BATCHES && tokens.isWord("batch"); batches++) {
                if (!takeBatch(catalog, stock)) {
                    return false;
                }
            }
            if (tokens.isWord("batch")) {
                return fail(TOO_MANY);
            }
            return tokens.kind == END || fail(BAD_TOKEN);
        }

        boolean parseScript(Text text, Catalog catalog, Script script) {
            begin(text);
            script.empty();
            for (int commands = 0; commands < MAX_COMMANDS && tokens.kind != END; commands++) {
                if (!takeCommand(catalog, script)) {
                    return false;
                }
            }
            if (tokens.kind == END) {
                return true;
            }
            return fail(commandHere() == NONE ? BAD_TOKEN : TOO_MANY);
        }

        private void begin(Text text) {
            errorCode = 0;
            errorPosition = NONE;
            tokens.startWith(text);
        }

        private boolean fail(int code) {
            errorCode = code;
            errorPosition = tokens.start;
            return false;
        }

        private boolean takeWord(String word) {
            if (!tokens.isWord(word)) {
                return fail(BAD_TOKEN);
            }
            tokens.readToken();
            return true;
        }

        private boolean takeSemicolon() {
            if (tokens.kind != SEMICOLON) {
                return fail(BAD_TOKEN);
            }
            tokens.readToken();
            return true;
        }

        /** The number that is next, or NONE if there is an error. */
        private int takeNumber(int least, int greatest) {
            if (tokens.kind != NUMBER) {
                fail(BAD_TOKEN);
                return NONE;
            }
            int number = tokens.value;
            if (isOutside(number, least, greatest)) {
                fail(BAD_NUMBER);
                return NONE;
            }
            tokens.readToken();
            return number;
        }

        /** The product whose name is next, or NONE if there is an error. */
        private int takeKnownName(Catalog catalog) {
            if (tokens.kind != WORD) {
                fail(BAD_TOKEN);
                return NONE;
            }
            int product = catalog.numberOf(tokens.text, tokens.start, tokens.size());
            if (product == NONE) {
                fail(BAD_NAME);
                return NONE;
            }
            tokens.readToken();
            return product;
        }

        private boolean takeNewName(Catalog catalog) {
            if (tokens.kind != WORD) {
                return fail(BAD_TOKEN);
            }
            boolean taken = catalog.numberOf(tokens.text, tokens.start, tokens.size()) != NONE;
            if (taken || tokens.size() > MAX_NAME_LETTERS) {
                return fail(BAD_NAME);
            }
            catalog.addNameless();
            for (int index = tokens.start; index < tokens.end; index++) {
                catalog.addLetter(tokens.text.byteAt(index));
            }
            tokens.readToken();
            return true;
        }

        private boolean takeProduct(Catalog catalog) {
            if (!takeWord("product") || !takeNewName(catalog)) {
                return false;
            }
            int minimum = takeNumber(0, MAX_MINIMUM);
            if (minimum == NONE) {
                return false;
            }
            catalog.setMinimum(minimum);
            return takeSemicolon();
        }

        private boolean takeBatch(Catalog catalog, Stock stock) {
            if (!takeWord("batch")) {
                return false;
            }
            int product = takeKnownName(catalog);
            if (product == NONE) {
                return false;
            }
            int quantity = takeNumber(1, MAX_BATCH_UNITS);
            if (quantity == NONE) {
                return false;
            }
            int expiry = takeNumber(0, MAX_DAY);
            if (expiry == NONE) {
                return false;
            }
            int cost = takeNumber(1, MAX_COST);
            if (cost == NONE) {
                return false;
            }
            stock.addBatch(product, quantity, expiry, cost);
            return takeSemicolon();
        }

        /** The command whose word is next, or NONE. */
        private int commandHere() {
            for (int command = 0; command < COMMANDS; command++) {
                if (tokens.isWord(wordOfCommand(command))) {
                    return command;
                }
            }
            return NONE;
        }

        private boolean takeCommand(Catalog catalog, Script script) {
            int command = commandHere();
            if (command == NONE) {
                return fail(BAD_TOKEN);
            }
            tokens.readToken();
            script.addCommand(command);
            if (namesProduct(command)) {
                int product = takeKnownName(catalog);
                if (product == NONE) {
                    return false;
                }
                script.addArgument(product);
            }
            for (int numbers = 0; numbers < numbersIn(command); numbers++) {
                int number = takeNumber(0, MAX_NUMBER);
                if (number == NONE) {
                    return false;
                }
                script.addArgument(number);
            }
            return takeSemicolon();
        }
    }
}
