import java.io.IOException;
import java.nio.file.Files;
import java.nio.file.Path;
import java.util.ArrayList;
import java.util.LinkedHashMap;
import java.util.List;
import java.util.Map;

/**
 * Ties each test of an edge to the sentence of ../shared/DOC.md that names it. A quoted sentence must stand in the
 * document, and no sentence of a section that is tested may be left without a test.
 */
final class Edges {
    interface CallWith {
        Object on(BatchWarehouse x, int value);
    }

    /** Far numbers, and those that a product with a length, or a narrower type, turns into near ones. */
    static final int[] FAR = {Integer.MIN_VALUE, Integer.MAX_VALUE, -Integer.MAX_VALUE, -256, 256, 65536, 107374183, 214748365,
        429496730, 536870912, 715827883, 1073741824};

    private static final Map<String, List<String>> SENTENCES = new LinkedHashMap<>();
    private static final Map<String, List<String>> QUOTED = new LinkedHashMap<>();
    private static String section = "";

    private Edges() {
    }

    /** Opens the section of the document that starts with this heading. */
    static void section(String heading) throws IOException {
        if (SENTENCES.isEmpty()) {
            readDocument();
        }
        section = heading;
        QUOTED.put(heading, new ArrayList<>());
    }

    private static void readDocument() throws IOException {
        String heading = "";
        for (String line : Files.readString(Path.of("../shared/DOC.md")).split("\n")) {
            if (line.startsWith("## ")) {
                heading = line.substring(3).replaceAll("(Promise \\d+):.*", "$1");
                SENTENCES.put(heading, new ArrayList<>());
            } else if (!heading.isEmpty() && !line.isBlank()) {
                String told = line.replaceAll("^`[^`]*\\([^`]*`: ", "");
                SENTENCES.get(heading).addAll(List.of(told.split("(?<=\\.) (?=[A-Z])")));
            }
        }
    }

    /** The test of the edge that this sentence, or this part of one, names. */
    static void edge(String sentence, Runnable test) {
        QUOTED.get(section).add(sentence);
        Check.about(section + " \"" + sentence + "\"");
        Check.note("stands in the document", true, SENTENCES.get(section).stream().anyMatch(s -> s.contains(sentence)));
        test.run();
        Check.about("");
    }

    /** A sentence, or a part of some, that names no edge. */
    static void plain(String... sentences) {
        QUOTED.get(section).addAll(List.of(sentences));
    }

    /** Every sentence of the opened sections must be quoted; of a promise, the one that is its title need not be. */
    static void end(String test) {
        for (Map.Entry<String, List<String>> opened : QUOTED.entrySet()) {
            boolean promise = opened.getKey().startsWith("Promise");
            List<String> sentences = SENTENCES.get(opened.getKey());
            for (String sentence : promise ? sentences.subList(1, sentences.size()) : sentences) {
                boolean quoted = opened.getValue().stream().anyMatch(sentence::contains);
                Check.note("a test of \"" + sentence + "\" in " + opened.getKey(), true, quoted);
            }
        }
        Check.end(test);
    }

    /** None of the calls may throw. */
    static void accepts(Scene.Maker maker, CallWith call, int... values) {
        for (int value : values) {
            Object got = Check.outcome(() -> call.on(maker.make(), value));
            Check.note("accepts " + value, "an answer", got.toString().startsWith("throws") ? got : "an answer");
        }
    }

    /** Each of the calls must throw this, and change nothing that can be seen. */
    static void refuses(Class<? extends RuntimeException> want, Scene.Maker maker, CallWith call, int... values) {
        String before = Sight.ofAll(maker);
        for (int value : values) {
            Check.fails("refuses " + value, want, () -> call.on(maker.make(), value));
            Check.sameSight("refusing " + value + " changes nothing", before, Sight.ofAll(() -> {
                BatchWarehouse x = maker.make();
                Check.outcome(() -> call.on(x, value));
                return x;
            }));
        }
    }

    static void outside(Scene.Maker maker, CallWith call, int... values) {
        refuses(IndexOutOfBoundsException.class, maker, call, values);
    }

    static void unfit(Scene.Maker maker, CallWith call, int... values) {
        refuses(IllegalArgumentException.class, maker, call, values);
    }

    static void impossible(Scene.Maker maker, CallWith call, int... values) {
        refuses(IllegalStateException.class, maker, call, values);
    }

    /** An argument from the least to the greatest: both are accepted, and what lies just or far outside is not. */
    static void range(Scene.Maker maker, CallWith call, int least, int greatest) {
        accepts(maker, call, least, greatest);
        unfit(maker, call, least - 1, greatest + 1, Integer.MIN_VALUE, Integer.MAX_VALUE, least - 65536, greatest + 65536);
    }

    /** The edges of the number of a product; the wrong calls have other wrong arguments too. */
    static void product(CallWith call, CallWith... wrong) {
        edge("`product`: number of a product", () -> {
            accepts(Scene::one, call, 0);
            accepts(Scene::fresh, call, 0, 1, 2);
            accepts(Scene::eight, call, 0, 7);
        });
        edge("Throws `IndexOutOfBoundsException` if the product does not exist", () -> {
            outside(Scene::one, call, -1, 1, 2, 7, 8);
            outside(Scene::fresh, call, -1, 3, 7, 8);
            outside(Scene::eight, call, -1, 8);
            outside(Scene::busy, call, -1, 3);
            outside(Scene::busy, call, FAR);
            for (CallWith each : wrong) {
                outside(Scene::busy, each, -1, 3);
                outside(Scene::lastDay, each, -1, 1);
                outside(Scene::tenReservations, each, -1, 3);
                outside(Scene::twentyBatches, each, -1, 1);
            }
        });
    }

    /** The edges of the number of a batch. */
    static void batch(CallWith call, CallWith... wrong) {
        edge("`batch`: number of a batch", () -> {
            accepts(Scene::one, call, 0);
            accepts(Scene::fresh, call, 0, 3);
            accepts(Scene::twentyBatches, call, 0, 19);
        });
        edge("Throws `IndexOutOfBoundsException` if the batch does not exist", () -> batchOutside(call, wrong));
    }

    static void batchOutside(CallWith call, CallWith... wrong) {
        outside(Scene::bare, call, -1, 0);
        outside(Scene::one, call, -1, 1, 19, 20);
        outside(Scene::fresh, call, -1, 4);
        outside(Scene::twentyBatches, call, -1, 20);
        outside(Scene::busy, call, FAR);
        outside(Edges::withUndoneBatch, call, 4);
        for (CallWith each : wrong) {
            outside(Scene::busy, each, -1, 5);
        }
    }

    private static BatchWarehouse withUndoneBatch() {
        BatchWarehouse x = new BatchWarehouse();
        x.receive(0, 9, 9, 9);
        x.undo();
        return x;
    }

    /** The edges of the number of a reservation. */
    static void reservation(CallWith call) {
        edge("`reservation`: number of a reservation", () -> {
            accepts(Scene::one, call, 0);
            accepts(Scene::tenReservations, call, 0, 9);
        });
        edge("Throws `IndexOutOfBoundsException` if the reservation", () -> reservationOutside(call));
    }

    static void reservationOutside(CallWith call) {
        outside(Scene::fresh, call, -1, 0);
        outside(Scene::one, call, -1, 1, 9, 10);
        outside(Scene::tenReservations, call, -1, 10);
        outside(Scene::busy, call, -1, 4);
        outside(Scene::busy, call, FAR);
        outside(Edges::withUndoneReservation, call, 0);
    }

    private static BatchWarehouse withUndoneReservation() {
        BatchWarehouse x = new BatchWarehouse();
        x.reserve(0, 9, 0);
        x.undo();
        return x;
    }
}
