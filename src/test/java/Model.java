import java.util.ArrayList;
import java.util.Comparator;
import java.util.List;
import java.util.NoSuchElementException;
import java.util.regex.Matcher;
import java.util.regex.Pattern;

/**
 * A second, slow warehouse, written from the document alone: it copies whole
 * states, sorts lists and simulates every day. ModelTest compares the two.
 */
public final class Model {
    static final int NONE = -1;

    static final class Batch {
        int product;
        int onHand;
        int expiry;
        int cost;

        Batch(int product, int onHand, int expiry, int cost) {
            this.product = product;
            this.onHand = onHand;
            this.expiry = expiry;
            this.cost = cost;
        }
    }

    static final class Reservation {
        int product;
        int quantity;
        int day;
        String state = "open";
        int[] allocated = new int[20];

        int sum() {
            int sum = 0;
            for (int units : allocated) {
                sum += units;
            }
            return sum;
        }
    }

    static final class State {
        int day;
        List<String> names = new ArrayList<>();
        List<Integer> minimums = new ArrayList<>();
        List<Batch> batches = new ArrayList<>();
        List<Reservation> reservations = new ArrayList<>();
        int[] received = new int[8];
        int[] delivered = new int[8];
        int[] writtenOff = new int[8];
        int[] adjusted = new int[8];

        State copy() {
            State c = new State();
            c.day = day;
            c.names.addAll(names);
            c.minimums.addAll(minimums);
            for (Batch b : batches) {
                c.batches.add(new Batch(b.product, b.onHand, b.expiry, b.cost));
            }
            for (Reservation r : reservations) {
                Reservation d = new Reservation();
                d.product = r.product;
                d.quantity = r.quantity;
                d.day = r.day;
                d.state = r.state;
                d.allocated = r.allocated.clone();
                c.reservations.add(d);
            }
            c.received = received.clone();
            c.delivered = delivered.clone();
            c.writtenOff = writtenOff.clone();
            c.adjusted = adjusted.clone();
            return c;
        }

        int reserved(int batch) {
            return reservations.stream().filter(r -> r.state.equals("open")).mapToInt(r -> r.allocated[batch]).sum();
        }

        int free(int batch) {
            return batches.get(batch).onHand - reserved(batch);
        }

        List<Integer> order(int product, int forDay) {
            List<Integer> order = new ArrayList<>();
            for (int b = 0; b < batches.size(); b++) {
                Batch batch = batches.get(b);
                if (batch.product == product && free(b) > 0 && batch.expiry >= forDay) {
                    order.add(b);
                }
            }
            order.sort(Comparator.comparingInt((Integer b) -> batches.get(b).expiry).thenComparingInt(b -> b));
            return order;
        }

        int available(int product, int forDay) {
            return order(product, forDay).stream().mapToInt(this::free).sum();
        }

        /** One unit at a time, so that the order alone decides. */
        int issue(int product, int quantity) {
            int cost = 0;
            for (int unit = 0; unit < quantity; unit++) {
                List<Integer> order = order(product, day);
                if (order.isEmpty()) {
                    return -cost - 1;
                }
                batches.get(order.get(0)).onHand--;
                cost += batches.get(order.get(0)).cost;
                delivered[product]++;
            }
            return cost;
        }

        int allocate(Reservation r, int forDay) {
            int units = 0;
            while (r.sum() < r.quantity) {
                List<Integer> order = order(r.product, forDay);
                if (order.isEmpty()) {
                    break;
                }
                r.allocated[order.get(0)]++;
                units++;
            }
            return units;
        }

        int writeOff(int product) {
            int units = 0;
            for (int b = 0; b < batches.size(); b++) {
                Batch batch = batches.get(b);
                if (batch.expiry < day && (product == NONE || batch.product == product)) {
                    units += batch.onHand;
                    writtenOff[batch.product] += batch.onHand;
                    batch.onHand = 0;
                    for (Reservation r : reservations) {
                        if (r.state.equals("open")) {
                            r.allocated[b] = 0;
                        }
                    }
                }
            }
            return units;
        }
    }

    private State state = new State();
    private final List<State> undo = new ArrayList<>();
    private final State[] slots = new State[2];
    private final StringBuilder input = new StringBuilder();
    private String output = "";
    private int errorCode = 0;
    private int errorPosition = NONE;

    public Model() {
        input.append("warehouse;product milk 20;product rice 50;product eggs 10;"
            + "batch milk 30 5 12;batch milk 20 3 10;batch rice 100 200 4;batch eggs 24 9 3;");
        load();
    }

    private static void range(int value, int least, int greatest) {
        if (value < least || value > greatest) {
            throw new IllegalArgumentException();
        }
    }

    private static void index(int value, int count) {
        if (value < 0 || value >= count) {
            throw new IndexOutOfBoundsException();
        }
    }

    private static void possible(boolean possible) {
        if (!possible) {
            throw new IllegalStateException();
        }
    }

    private void product(int product) {
        index(product, state.names.size());
    }

    private Batch batch(int batch) {
        index(batch, state.batches.size());
        return state.batches.get(batch);
    }

    private Reservation reservation(int reservation) {
        index(reservation, state.reservations.size());
        return state.reservations.get(reservation);
    }

    private List<Batch> of(int product) {
        product(product);
        List<Batch> list = new ArrayList<>();
        for (Batch b : state.batches) {
            if (b.product == product) {
                list.add(b);
            }
        }
        return list;
    }

    // ---- input

    public int append(int a, int b, int c, int d, int e) {
        possible(input.length() + 20 <= 600);
        for (int word : new int[] {a, b, c, d, e}) {
            for (int shift = 24; shift >= 0; shift -= 8) {
                input.append((char) (word >> shift & 255));
            }
        }
        return input.length();
    }

    public int truncate(int length) {
        range(length, 0, input.length());
        input.setLength(length);
        return length;
    }

    public int load() {
        Reader reader = new Reader(input.toString());
        input.setLength(0);
        State next = new State();
        finish(reader, () -> reader.setup(next));
        state = next;
        undo.clear();
        slots[0] = null;
        slots[1] = null;
        return state.names.size();
    }

    private void finish(Reader reader, Runnable parse) {
        errorCode = 0;
        errorPosition = NONE;
        try {
            parse.run();
        } catch (TextError e) {
            errorCode = e.code;
            errorPosition = e.position;
            throw new IllegalArgumentException();
        }
    }

    public int errorCode() {
        return errorCode;
    }

    public int errorPosition() {
        return errorPosition;
    }

    // ---- products

    public int productCount() {
        return state.names.size();
    }

    public int day() {
        return state.day;
    }

    public int nameByte(int product, int index) {
        product(product);
        index(index, state.names.get(product).length());
        return state.names.get(product).charAt(index);
    }

    public int findProduct() {
        int found = state.names.indexOf(input.toString());
        if (found < 0) {
            throw new NoSuchElementException();
        }
        return found;
    }

    public int minimumStock(int product) {
        product(product);
        return state.minimums.get(product);
    }

    public int onHand(int product) {
        return of(product).stream().mapToInt(b -> b.onHand).sum();
    }

    public int reserved(int product) {
        product(product);
        int sum = 0;
        for (Reservation r : state.reservations) {
            sum += r.product == product && r.state.equals("open") ? r.sum() : 0;
        }
        return sum;
    }

    public int availableOn(int product, int day) {
        product(product);
        range(day, 0, 9999);
        return state.available(product, day);
    }

    public int expired(int product) {
        return of(product).stream().filter(b -> b.expiry < state.day).mapToInt(b -> b.onHand).sum();
    }

    public int expiringWithin(int product, int days) {
        product(product);
        range(days, 0, 999);
        return of(product).stream().filter(b -> b.expiry >= state.day && b.expiry <= state.day + days).mapToInt(b -> b.onHand).sum();
    }

    public int stockValue(int product) {
        return of(product).stream().mapToInt(b -> b.onHand * b.cost).sum();
    }

    public int totalValue() {
        return state.batches.stream().mapToInt(b -> b.onHand * b.cost).sum();
    }

    public int reorderQuantity(int product) {
        product(product);
        return Math.max(0, state.minimums.get(product) - state.available(product, state.day));
    }

    public int reorderCount() {
        int count = 0;
        for (int p = 0; p < state.names.size(); p++) {
            count += reorderQuantity(p) > 0 ? 1 : 0;
        }
        return count;
    }

    // ---- batches

    public int batchCount() {
        return state.batches.size();
    }

    public int productOf(int batch) {
        return batch(batch).product;
    }

    public int quantity(int batch) {
        return batch(batch).onHand;
    }

    public int reservedOf(int batch) {
        batch(batch);
        return state.reserved(batch);
    }

    public int expiryDay(int batch) {
        return batch(batch).expiry;
    }

    public int unitCost(int batch) {
        return batch(batch).cost;
    }

    public boolean isExpired(int batch) {
        return batch(batch).expiry < state.day;
    }

    public int issueOrder(int product, int position) {
        product(product);
        List<Integer> order = state.order(product, state.day);
        return position < 0 || position >= order.size() ? NONE : order.get(position);
    }

    public int costOfIssue(int product, int quantity) {
        product(product);
        range(quantity, 1, 9999);
        return state.available(product, state.day) < quantity ? NONE : state.copy().issue(product, quantity);
    }

    // ---- reservations

    public int reservationCount() {
        return state.reservations.size();
    }

    public int reservedProduct(int reservation) {
        return reservation(reservation).product;
    }

    public int reservedQuantity(int reservation) {
        return reservation(reservation).quantity;
    }

    public boolean isOpen(int reservation) {
        return reservation(reservation).state.equals("open");
    }

    public int missing(int reservation) {
        Reservation r = reservation(reservation);
        return r.state.equals("open") ? r.quantity - r.sum() : 0;
    }

    public int allocation(int reservation, int batch) {
        Reservation r = reservation(reservation);
        batch(batch);
        return r.allocated[batch];
    }

    public int whyNotShipped(int reservation) {
        Reservation r = reservation(reservation);
        if (!r.state.equals("open")) {
            return 1;
        }
        if (r.sum() < r.quantity) {
            return 2;
        }
        return holdsBefore(r, state.day) ? 3 : 0;
    }

    private boolean holdsBefore(Reservation r, int day) {
        for (int b = 0; b < state.batches.size(); b++) {
            if (r.allocated[b] > 0 && state.batches.get(b).expiry < day) {
                return true;
            }
        }
        return false;
    }

    public int endangeredReservations() {
        return (int) state.reservations.stream().filter(r -> r.state.equals("open"))
            .filter(r -> holdsBefore(r, r.day) || holdsBefore(r, state.day)).count();
    }

    // ---- accounts

    public int receivedUnits(int product) {
        product(product);
        return state.received[product];
    }

    public int deliveredUnits(int product) {
        product(product);
        return state.delivered[product];
    }

    public int writtenOffUnits(int product) {
        product(product);
        return state.writtenOff[product];
    }

    public int adjustment(int product) {
        product(product);
        return state.adjusted[product];
    }

    public double meanCost(int product) {
        return onHand(product) == 0 ? 0.0 : (double) stockValue(product) / (double) onHand(product);
    }

    public float wasteShare(int product) {
        product(product);
        return state.received[product] == 0 ? 0.0f : (float) state.writtenOff[product] / (float) state.received[product];
    }

    public int inconsistencies() {
        return 0;
    }

    // ---- forecasts

    public int daysUntilShortage(int product, int demand) {
        product(product);
        range(demand, 1, 999);
        State copy = state.copy();
        for (int days = 0; days < 365; days++) {
            copy.writeOff(NONE);
            if (copy.available(product, copy.day) < demand) {
                return days;
            }
            copy.issue(product, demand);
            copy.day++;
        }
        return 365;
    }

    public int wasteWithDemand(int product, int demand, int days) {
        product(product);
        range(demand, 0, 999);
        range(days, 0, 365);
        State copy = state.copy();
        int waste = 0;
        for (int d = 0; d < days; d++) {
            int before = copy.writtenOff[product];
            copy.writeOff(NONE);
            waste += copy.writtenOff[product] - before;
            copy.issue(product, Math.min(demand, copy.available(product, copy.day)));
            copy.day++;
        }
        return waste;
    }

    public int demandWithoutWaste(int product) {
        product(product);
        for (int demand = 0; demand <= 999; demand++) {
            if (wasteWithDemand(product, demand, 365) == 0) {
                return demand;
            }
        }
        return NONE;
    }

    // ---- changes

    private void remember() {
        undo.add(state.copy());
        if (undo.size() > 6) {
            undo.remove(0);
        }
    }

    public int receive(int product, int quantity, int expiry, int cost) {
        product(product);
        range(quantity, 1, 999);
        range(expiry, 0, 9999);
        range(cost, 1, 999);
        possible(state.batches.size() < 20);
        remember();
        state.batches.add(new Batch(product, quantity, expiry, cost));
        state.received[product] += quantity;
        return state.batches.size() - 1;
    }

    public int issue(int product, int quantity) {
        product(product);
        range(quantity, 1, 9999);
        possible(state.available(product, state.day) >= quantity);
        remember();
        return state.issue(product, quantity);
    }

    public int reserve(int product, int quantity, int day) {
        product(product);
        range(quantity, 1, 9999);
        range(day, state.day, 9999);
        possible(state.reservations.size() < 10 && state.available(product, day) >= quantity);
        remember();
        Reservation r = new Reservation();
        r.product = product;
        r.quantity = quantity;
        r.day = day;
        state.reservations.add(r);
        state.allocate(r, day);
        return state.reservations.size() - 1;
    }

    public int ship(int reservation) {
        reservation(reservation);
        possible(whyNotShipped(reservation) == 0);
        remember();
        Reservation r = state.reservations.get(reservation);
        int cost = 0;
        for (int b = 0; b < state.batches.size(); b++) {
            state.batches.get(b).onHand -= r.allocated[b];
            cost += r.allocated[b] * state.batches.get(b).cost;
        }
        state.delivered[r.product] += r.sum();
        r.state = "shipped";
        return cost;
    }

    public int cancel(int reservation) {
        possible(reservation(reservation).state.equals("open"));
        remember();
        Reservation r = state.reservations.get(reservation);
        r.state = "cancelled";
        return r.sum();
    }

    public int refill(int reservation) {
        possible(reservation(reservation).state.equals("open"));
        remember();
        Reservation r = state.reservations.get(reservation);
        return state.allocate(r, Math.max(r.day, state.day));
    }

    public int takeStock(int batch, int counted) {
        batch(batch);
        range(counted, 0, 999);
        possible(counted >= state.reserved(batch));
        remember();
        Batch b = state.batches.get(batch);
        int difference = counted - b.onHand;
        b.onHand = counted;
        state.adjusted[b.product] += difference;
        return difference;
    }

    public int writeOffExpired() {
        remember();
        return state.writeOff(NONE);
    }

    public int passDays(int days) {
        range(days, 1, 999);
        possible(state.day + days <= 9999);
        remember();
        int before = state.day;
        state.day += days;
        return (int) state.batches.stream().filter(b -> b.onHand > 0 && b.expiry >= before && b.expiry < state.day).count();
    }

    public int runScript() {
        Reader reader = new Reader(input.toString());
        input.setLength(0);
        List<String[]> commands = new ArrayList<>();
        finish(reader, () -> reader.script(state.names, commands));
        remember();
        List<State> kept = new ArrayList<>(undo);
        int executed = 0;
        try {
            for (String[] command : commands) {
                execute(command);
                executed++;
            }
        } catch (IndexOutOfBoundsException | IllegalArgumentException | IllegalStateException e) {
            // The script stops here.
        }
        undo.clear();
        undo.addAll(kept);
        return executed;
    }

    private void execute(String[] c) {
        int[] n = new int[c.length];
        for (int i = 1; i < c.length; i++) {
            n[i] = Character.isDigit(c[i].charAt(0)) ? Integer.parseInt(c[i]) : state.names.indexOf(c[i]);
        }
        switch (c[0]) {
            case "receive" -> receive(n[1], n[2], n[3], n[4]);
            case "issue" -> issue(n[1], n[2]);
            case "reserve" -> reserve(n[1], n[2], n[3]);
            case "ship" -> ship(n[1]);
            case "cancel" -> cancel(n[1]);
            case "refill" -> refill(n[1]);
            case "count" -> takeStock(n[1], n[2]);
            case "writeoff" -> writeOffExpired();
            case "days" -> passDays(n[1]);
            default -> throw new AssertionError(c[0]);
        }
    }

    // ---- undo, saved states, output

    public int undo() {
        possible(!undo.isEmpty());
        state = undo.remove(undo.size() - 1);
        return undo.size();
    }

    public int save(int slot) {
        index(slot, 2);
        slots[slot] = state.copy();
        return state.day;
    }

    public int restore(int slot) {
        index(slot, 2);
        possible(slots[slot] != null);
        state = slots[slot].copy();
        undo.clear();
        return state.day;
    }

    public int writeBatches(int product) {
        List<Batch> list = of(product);
        list.removeIf(b -> b.onHand == 0);
        list.sort(Comparator.comparingInt(b -> b.expiry));
        List<String> parts = new ArrayList<>();
        for (Batch b : list) {
            parts.add(b.onHand + "@" + b.expiry + (b.expiry < state.day ? "!" : ""));
        }
        output = String.join(" ", parts);
        return output.length();
    }

    public int outputByte(int index) {
        index(index, output.length());
        return output.charAt(index);
    }

    // ---- texts

    @SuppressWarnings("serial")
    static final class TextError extends RuntimeException {
        final int code;
        final int position;

        TextError(int code, int position) {
            this.code = code;
            this.position = position;
        }
    }

    static final class Reader {
        private static final Pattern TOKEN = Pattern.compile("[ \\n]*([a-z]+|[0-9]+|[^ \\n])", Pattern.DOTALL);
        private final List<String> tokens = new ArrayList<>();
        private final List<Integer> starts = new ArrayList<>();
        private int at = 0;

        Reader(String text) {
            Matcher m = TOKEN.matcher(text);
            while (m.find()) {
                tokens.add(m.group(1));
                starts.add(m.start(1));
            }
            tokens.add("");
            starts.add(text.length());
        }

        private String here() {
            return tokens.get(at);
        }

        private void error(int code) {
            throw new TextError(code, starts.get(at));
        }

        private void demand(boolean holds, int code) {
            if (!holds) {
                error(code);
            }
        }

        private void literal(String token) {
            demand(here().equals(token), 1);
            at++;
        }

        private String word() {
            demand(here().matches("[a-z]{1,9}"), 1);
            return here();
        }

        private int number(int least, int greatest) {
            demand(here().matches("[0-9]{1,4}"), 1);
            int number = Integer.parseInt(here());
            demand(number >= least && number <= greatest, 2);
            at++;
            return number;
        }

        private String known(List<String> names) {
            String name = word();
            demand(names.contains(name), 3);
            at++;
            return name;
        }

        void setup(State s) {
            literal("warehouse");
            literal(";");
            while (s.names.isEmpty() || here().equals("product")) {
                demand(here().equals("product"), 1);
                demand(s.names.size() < 8, 4);
                at++;
                String name = word();
                demand(name.length() <= 6 && !s.names.contains(name), 3);
                at++;
                s.names.add(name);
                s.minimums.add(number(0, 999));
                literal(";");
            }
            while (here().equals("batch")) {
                demand(s.batches.size() < 20, 4);
                at++;
                int product = s.names.indexOf(known(s.names));
                int quantity = number(1, 999);
                int expiry = number(0, 9999);
                int cost = number(1, 999);
                s.batches.add(new Batch(product, quantity, expiry, cost));
                s.received[product] += quantity;
                literal(";");
            }
            demand(here().isEmpty(), 1);
        }

        void script(List<String> names, List<String[]> commands) {
            String forms = "receive xnnn,issue xn,reserve xnn,ship n,cancel n,refill n,count nn,writeoff ,days n,";
            while (!here().isEmpty()) {
                String form = null;
                for (String f : forms.split(",")) {
                    if (f.startsWith(here() + " ")) {
                        form = f.substring(here().length() + 1);
                    }
                }
                demand(form != null, 1);
                demand(commands.size() < 30, 4);
                String[] command = new String[form.length() + 1];
                command[0] = here();
                at++;
                for (int i = 0; i < form.length(); i++) {
                    command[i + 1] = form.charAt(i) == 'x' ? known(names) : String.valueOf(number(0, 9999));
                }
                commands.add(command);
                literal(";");
            }
        }
    }
}
