import java.lang.reflect.InvocationTargetException;
import java.lang.reflect.Method;
import java.util.ArrayList;
import java.util.Arrays;
import java.util.Comparator;
import java.util.List;
import java.util.Random;

/** Promises 1 to 62 against Model, over many runs of calls; every run keeps to the 512 calls of the document. */
public final class ModelTest {
    private static final int RUNS = 400;
    private static final int CALLS = 500;

    private static final List<Method> METHODS = new ArrayList<>();
    private static final String[] OFTEN = {"receive", "issue", "reserve", "reserve", "ship", "cancel", "refill", "takeStock",
        "writeOffExpired", "passDays", "undo", "restore", "save", "text", "text", "receive", "passDays", "refill", "ship"};

    private final Random random;
    private final BatchWarehouse real = new BatchWarehouse();
    private final Model model = new Model();
    private final StringBuilder log = new StringBuilder();
    private int calls = 0;
    private boolean agree = true;

    private ModelTest(long seed) {
        random = new Random(seed);
    }

    public static void main(String[] args) throws Exception {
        for (Method m : BatchWarehouse.class.getDeclaredMethods()) {
            if (java.lang.reflect.Modifier.isPublic(m.getModifiers())) {
                METHODS.add(m);
            }
        }
        METHODS.sort(Comparator.comparing(Method::getName));
        int differing = 0;
        for (int seed = 0; seed < RUNS && differing < 3; seed++) {
            ModelTest run = new ModelTest(seed);
            run.go();
            if (!run.agree) {
                differing++;
                System.out.println("seed " + seed + ":\n" + run.log);
            }
        }
        Check.note("runs that differ", 0, differing);
        Check.note("methods", 61, METHODS.size());
        Check.end("ModelTest");
    }

    private void go() throws Exception {
        if (random.nextInt(3) > 0) {
            text(setup(), "load");
        }
        if (random.nextInt(8) == 0) {
            passToTheLastDays();
        }
        while (agree && calls < CALLS - 80) {
            if (random.nextInt(3) == 0) {
                String name = OFTEN[random.nextInt(OFTEN.length)];
                if (name.equals("text")) {
                    boolean script = random.nextInt(12) > 0;
                    text(script ? script() : setup(), script ? "runScript" : "load");
                } else {
                    call(method(name));
                }
            } else {
                call(METHODS.get(random.nextInt(METHODS.size())));
            }
        }
    }

    private void passToTheLastDays() throws Exception {
        for (int i = 0; i < 10; i++) {
            both(method("passDays"), new int[] {999});
        }
    }

    private static Method method(String name) {
        return METHODS.stream().filter(m -> m.getName().equals(name)).findFirst().orElseThrow();
    }

    private void call(Method m) throws Exception {
        String name = m.getName();
        if (name.equals("load") || name.equals("append") && random.nextInt(3) > 0) {
            return;
        }
        if (name.equals("demandWithoutWaste") && random.nextInt(12) > 0) {
            return; // the model needs long for it
        }
        int[] args = new int[m.getParameterCount()];
        for (int i = 0; i < args.length; i++) {
            args[i] = argument(name, i);
        }
        both(m, args);
    }

    private int argument(String name, int i) {
        if (random.nextInt(40) == 0) {
            int[] odd = {-1, 0, 1, 2, 7, 8, 9, 10, 19, 20, 364, 365, 366, 999, 1000, 9999, 10000,
                Integer.MAX_VALUE, Integer.MIN_VALUE, 107374182, 214748365, -2147483647};
            return odd[random.nextInt(odd.length)];
        }
        int day = model.day();
        switch (name + " " + i) {
            case "truncate 0": return random.nextInt(30);
            case "nameByte 1": return random.nextInt(6);
            case "availableOn 1": case "reserve 2": return day + random.nextInt(12) - 1;
            case "expiringWithin 1": return random.nextInt(random.nextBoolean() ? 10 : 999);
            case "issueOrder 1": return random.nextInt(5);
            case "costOfIssue 1": case "issue 1": case "reserve 1": return random.nextInt(random.nextBoolean() ? 20 : 80);
            case "productOf 0": case "quantity 0": case "reservedOf 0": case "expiryDay 0": case "unitCost 0":
            case "isExpired 0": case "takeStock 0": case "allocation 1": return random.nextInt(model.batchCount() + 1);
            case "takeStock 1": return random.nextInt(60);
            case "reservedProduct 0": case "reservedQuantity 0": case "isOpen 0": case "missing 0": case "allocation 0":
            case "whyNotShipped 0": case "ship 0": case "cancel 0": case "refill 0": return random.nextInt(model.reservationCount() + 1);
            case "daysUntilShortage 1": case "wasteWithDemand 1": return random.nextInt(random.nextBoolean() ? 10 : 60);
            case "wasteWithDemand 2": return random.nextInt(random.nextBoolean() ? 12 : 366);
            case "receive 1": return random.nextInt(50);
            case "receive 2": return Math.max(0, day + random.nextInt(random.nextInt(5) == 0 ? 400 : 14) - 3);
            case "receive 3": return random.nextInt(30);
            case "passDays 0": return random.nextInt(random.nextInt(20) == 0 ? 1000 : 5);
            case "save 0": case "restore 0": return random.nextInt(2);
            case "outputByte 0": return random.nextInt(25);
            default: return name.equals("append") ? random.nextInt() : random.nextInt(model.productCount() + (random.nextInt(9) == 0 ? 1 : 0));
        }
    }

    private void text(String text, String by) throws Exception {
        both(method("truncate"), new int[] {0});
        int length = 0;
        String padded = text + " ".repeat((20 - text.length() % 20) % 20);
        for (int from = 0; from < padded.length(); from += 20) {
            int[] words = new int[5];
            for (int i = 0; i < 20; i++) {
                words[i / 4] = words[i / 4] << 8 | padded.charAt(from + i);
            }
            both(method("append"), words);
            length += 20;
        }
        if (length > text.length()) {
            both(method("truncate"), new int[] {text.length()});
        }
        log.append("  text: ").append(text).append('\n');
        both(method(by), new int[0]);
        both(method("errorCode"), new int[0]);
        both(method("errorPosition"), new int[0]);
    }

    private void both(Method m, int[] args) throws Exception {
        if (!agree || calls >= 511) {
            return;
        }
        calls++;
        Object[] boxed = Arrays.stream(args).boxed().toArray();
        Object want = answer(Model.class.getMethod(m.getName(), m.getParameterTypes()), model, boxed);
        Object got = answer(m, real, boxed);
        log.append("  ").append(m.getName()).append(Arrays.toString(args)).append(" -> ").append(got).append('\n');
        if (!want.equals(got)) {
            log.append("  due is ").append(want).append('\n');
            agree = false;
        }
    }

    private static Object answer(Method m, Object on, Object[] args) throws Exception {
        try {
            return m.invoke(on, args);
        } catch (InvocationTargetException e) {
            return e.getCause().getClass();
        }
    }

    // ---- texts, right and a little wrong

    private String pick(String... from) {
        return from[random.nextInt(from.length)];
    }

    private String gap() {
        return pick(" ", " ", " ", "  ", "\n");
    }

    private String name() {
        if (random.nextInt(30) == 0) {
            return pick("abcdefg", "nothing", "batch", "abcdefghij", "product");
        }
        return pick("a", "b", "milk", "rice", "batch", "ship", "days", "abcdef", "count", "eggs", "issue", "cancel");
    }

    private String modelName() {
        if (random.nextInt(40) == 0) {
            return name();
        }
        int product = random.nextInt(model.productCount());
        StringBuilder name = new StringBuilder();
        for (int i = 0; i < 6; i++) {
            try {
                name.append((char) model.nameByte(product, i));
            } catch (IndexOutOfBoundsException e) {
                break;
            }
        }
        return name.toString();
    }

    private String number(int below) {
        if (random.nextInt(60) == 0) {
            return pick("0", "00", "999", "1000", "9999", "10000", "0007", "00007", "");
        }
        return String.valueOf(random.nextInt(below));
    }

    private String setup() {
        StringBuilder s = new StringBuilder("warehouse;");
        List<String> names = new ArrayList<>();
        int products = random.nextInt(6) == 0 ? 9 : 1 + random.nextInt(8);
        for (int i = 0; i < products; i++) {
            String name = name();
            for (int tries = 0; tries < 60 && names.contains(name); tries++) {
                name = name();
            }
            names.add(name);
            s.append("product").append(gap()).append(name).append(gap()).append(number(60)).append(";");
        }
        int batches = random.nextInt(6) == 0 ? 21 : random.nextInt(14);
        for (int i = 0; i < batches; i++) {
            s.append("batch").append(gap()).append(names.get(random.nextInt(names.size()))).append(gap()).append(1 + random.nextInt(40))
                .append(gap()).append(number(14)).append(gap()).append(1 + random.nextInt(20)).append(";");
        }
        return damaged(s);
    }

    private String script() {
        StringBuilder s = new StringBuilder();
        int commands = random.nextInt(15) == 0 ? 28 + random.nextInt(5) : random.nextInt(7);
        int day = model.day();
        for (int i = 0; i < commands; i++) {
            String batch = number(model.batchCount() + 1);
            String reservation = number(model.reservationCount() + 1);
            switch (random.nextInt(commands > 20 ? 9 : 14)) {
                case 0: s.append("writeoff"); break;
                case 1: s.append("days").append(gap()).append(number(4)); break;
                case 2: s.append("ship").append(gap()).append(reservation); break;
                case 3: s.append("cancel ").append(reservation); break;
                case 4: s.append("refill ").append(reservation); break;
                case 5: s.append("count ").append(batch).append(gap()).append(number(50)); break;
                case 6: s.append("writeoff").append(gap()); break;
                case 7: case 8: s.append("issue ").append(modelName()).append(gap()).append(number(20)); break;
                case 9: case 10: s.append("receive ").append(modelName()).append(gap()).append(number(40)).append(gap())
                    .append(Math.min(9999, day + random.nextInt(12))).append(gap()).append(number(30)); break;
                default: s.append("reserve ").append(modelName()).append(gap()).append(number(20)).append(gap())
                    .append(Math.min(9999, day + random.nextInt(8))); break;
            }
            s.append(";");
        }
        return damaged(s);
    }

    private String damaged(StringBuilder s) {
        int kind = random.nextInt(16);
        int at = s.length() == 0 ? 0 : random.nextInt(s.length());
        if (kind == 0) {
            s.setLength(at);
        } else if (kind == 1) {
            s.insert(at, pick("x", "7", ";", " ", "A", "!", "\t", "\u00e9", "\u00ff", "\0", "\n", "{", "`", "/", ":"));
        } else if (kind == 2 && s.length() > 0) {
            s.deleteCharAt(at);
        } else if (kind == 3) {
            s.append(pick(" ", "\n ", "x", ";", "batch", "product", "0"));
        }
        if (s.length() > 600) {
            s.setLength(600);
        }
        return s.toString();
    }
}
