/** The edges of promises 1 to 6, each with the sentence that names it. */
public final class InputEdgesTest {
    private static final String SETUP = "warehouse;product a 5;batch a 3 7 2;";

    public static void main(String[] args) throws Exception {
        newObject();
        append();
        truncate();
        load();
        errorCode();
        errorPosition();
        Edges.end("InputEdgesTest");
    }

    private static BatchWarehouse with(String text) {
        BatchWarehouse x = Scene.busy();
        x.truncate(0);
        Check.put(x, text);
        return x;
    }

    private static BatchWarehouse filled(int length) {
        return with(" ".repeat(length));
    }

    private static Object loadOf(BatchWarehouse x) {
        return Check.outcome(x::load);
    }

    private static Object runOf(BatchWarehouse x) {
        return Check.outcome(x::runScript);
    }

    private static void newObject() throws Exception {
        Edges.section("Promise 1");
        Edges.edge("The current day is 0, there are no reservations, the input buffer is empty and nothing is saved.", () -> {
            BatchWarehouse x = new BatchWarehouse();
            Check.due("day", 0, x::day);
            Check.due("reservations", 0, x::reservationCount);
            Check.due("input", 0, () -> Sight.inputLength(Scene::fresh));
            Check.impossible("slot 0", () -> x.restore(0));
            Check.impossible("slot 1", () -> x.restore(1));
            Check.impossible("no change", x::undo);
            Check.outside("no output", () -> x.outputByte(0));
        });
        Edges.edge("Creates the warehouse of the setup text", () -> {
            String text = "warehouse;product milk 20;product rice 50;product eggs 10;"
                + "batch milk 30 5 12;batch milk 20 3 10;batch rice 100 200 4;batch eggs 24 9 3;";
            Check.sameSight("is like the loaded one", Sight.ofAll(() -> Check.loaded(text)), Sight.ofAll(Scene::fresh));
            Check.sameSight("like itself", Sight.ofAll(Scene::fresh), Sight.ofAll(Scene::fresh));
        });
    }

    private static void append() throws Exception {
        Edges.section("Promise 2");
        Edges.edge("Appends 20 bytes to the input buffer: the four bytes of each argument, the most significant byte first.", () -> {
            for (int word = 0; word < 5; word++) {
                for (int shift = 24; shift >= 0; shift -= 8) {
                    int at = word;
                    int bits = shift;
                    oddByteAt(at, 0x20202020 ^ (' ' ^ '!') << bits, at * 4 + 3 - bits / 8);
                    oddByteAt(at, 0x20202020 ^ (' ' ^ 255) << bits, at * 4 + 3 - bits / 8);
                    oddByteAt(at, 0x20202020 ^ ' ' << bits, at * 4 + 3 - bits / 8);
                }
            }
        });
        word("`a`: bytes 1 to 4", 0);
        word("`b`: bytes 5 to 8", 1);
        word("`c`: bytes 9 to 12", 2);
        word("`d`: bytes 13 to 16", 3);
        word("`e`: bytes 17 to 20", 4);
        Edges.edge("Returns the new length of the buffer.", () -> {
            for (int length : new int[] {0, 1, 19, 20, 21, 579, 580}) {
                Check.due("from " + length, length + 20, () -> filled(length).append(0, 0, 0, 0, 0));
            }
        });
        Edges.edge("Throws `IllegalStateException` if the new length would exceed 600", () -> {
            Edges.accepts(() -> filled(580), (x, v) -> x.append(v, v, v, v, v), 0, -1, Integer.MIN_VALUE, Integer.MAX_VALUE);
            Edges.impossible(() -> filled(581), (x, v) -> x.append(v, v, v, v, v), 0, -1);
            Edges.impossible(() -> filled(599), (x, v) -> x.append(v, v, v, v, v), 0);
            Edges.impossible(() -> filled(600), (x, v) -> x.append(v, v, v, v, v), 0, Integer.MIN_VALUE, Integer.MAX_VALUE);
        });
    }

    /** Appends spaces and this word among them, whose odd byte must be where a text has its first error. */
    private static void oddByteAt(int word, int value, int position) {
        int[] words = {0x20202020, 0x20202020, 0x20202020, 0x20202020, 0x20202020};
        words[word] = value;
        BatchWarehouse x = new BatchWarehouse();
        x.append(words[0], words[1], words[2], words[3], words[4]);
        loadOf(x);
        Check.due("word " + word + " = " + value, position, x::errorPosition);
    }

    private static void word(String sentence, int word) {
        Edges.edge(sentence, () -> {
            int[] words = {0x20202020, 0x20202020, 0x20202020, 0x20202020, 0x20202020};
            words[word] = 'e' << 24 | 'g' << 16 | 'g' << 8 | 's';
            BatchWarehouse x = new BatchWarehouse();
            Check.put(x, "issue ");
            x.append(words[0], words[1], words[2], words[3], words[4]);
            Check.put(x, "4;");
            Check.due("one command", 1, x::runScript);
            Check.due("of eggs", 20, () -> x.onHand(2));
            oddByteAt(word, 0x21202020, word * 4);
            oddByteAt(word, 0x20202021, word * 4 + 3);
        });
    }

    private static void truncate() throws Exception {
        Edges.section("Promise 3");
        Edges.edge("`length`: new length of the buffer, 0 to its current length", () -> {
            Edges.accepts(Scene::fresh, (x, v) -> x.truncate(v), 0);
            Edges.accepts(() -> filled(1), (x, v) -> x.truncate(v), 0, 1);
            Edges.accepts(() -> filled(20), (x, v) -> x.truncate(v), 0, 1, 19, 20);
            Edges.accepts(() -> filled(600), (x, v) -> x.truncate(v), 0, 1, 599, 600);
        });
        Edges.edge("Returns the new length.", () -> {
            for (int length : new int[] {0, 1, 299, 599, 600}) {
                Check.due("" + length, length, () -> filled(600).truncate(length));
                Check.due("length then", length, () -> Sight.inputLength(() -> {
                    BatchWarehouse x = filled(600);
                    x.truncate(length);
                    return x;
                }));
            }
            BatchWarehouse x = with("rice");
            Check.sameSight("cutting nothing changes nothing", Sight.ofAll(() -> with("rice")), Sight.ofAll(() -> {
                BatchWarehouse y = with("rice");
                y.truncate(4);
                return y;
            }));
            x.truncate(0);
            Check.put(x, "eggs");
            Check.fails("what was cut is gone", java.util.NoSuchElementException.class, x::findProduct);
            x.truncate(0);
            Check.put(x, "rice");
            Check.due("rice again", 1, x::findProduct);
        });
        Edges.edge("Throws `IllegalArgumentException` if length is out of range", () -> {
            Edges.unfit(Scene::fresh, (x, v) -> x.truncate(v), -1, 1, 600, 601);
            Edges.unfit(() -> filled(1), (x, v) -> x.truncate(v), -1, 2);
            Edges.unfit(() -> filled(599), (x, v) -> x.truncate(v), -1, 600);
            Edges.unfit(() -> filled(600), (x, v) -> x.truncate(v), -1, 601);
            Edges.unfit(Scene::busy, (x, v) -> x.truncate(v), -1, 5);
            Edges.unfit(Scene::busy, (x, v) -> x.truncate(v), Edges.FAR);
        });
    }

    private static void load() throws Exception {
        Edges.section("Promise 4");
        Edges.edge("Parses the input buffer as a setup text and empties the buffer, also if the text has an error.", () -> {
            for (String text : new String[] {SETUP, "", " ", "warehouse", "x".repeat(600), SETUP + " ".repeat(600 - SETUP.length())}) {
                Check.due("length after '" + text + "'", 0, () -> Sight.inputLength(() -> {
                    BatchWarehouse x = with(text);
                    loadOf(x);
                    return x;
                }));
            }
        });
        Edges.edge("A valid setup replaces the whole state, discards the saved states, and clears the undo history.", () -> {
            BatchWarehouse x = with(SETUP);
            Check.due("loaded", 1, x::load);
            Check.sameSight("the state is that of a new object", Sight.ofState(() -> Check.loaded(SETUP)), Sight.ofState(() -> {
                BatchWarehouse y = with(SETUP);
                y.load();
                return y;
            }));
            Check.impossible("slot 0", () -> x.restore(0));
            Check.impossible("slot 1", () -> x.restore(1));
            Check.impossible("undo", x::undo);
            x.passDays(1);
            Check.due("only changes since then can be undone", 0, x::undo);
            Check.impossible("no more", x::undo);
            BatchWarehouse full = Scene.tenReservations();
            Check.put(full, Scene.textOfBatches(20));
            full.load();
            Check.put(full, SETUP);
            full.load();
            Check.due("there is room for batches again", 1, () -> full.receive(0, 1, 1, 1));
            Check.due("there is room for reservations again", 0, () -> full.reserve(0, 4, 1));
            Check.due("its allocations are its own", 3, () -> full.allocation(0, 0));
            Check.due("its allocations are its own", 1, () -> full.allocation(0, 1));
        });
        Edges.edge("Returns the number of products.", () -> {
            Check.due("1", 1, () -> with("warehouse;product a 5;").load());
            Check.due("8", 8, () -> {
                BatchWarehouse x = new BatchWarehouse();
                Check.put(x, "warehouse;product a 1;product b 1;product c 1;product d 1;product e 1;product f 1;product g 1;product h 1;");
                return x.load();
            });
        });
        Edges.edge("Throws `IllegalArgumentException` if the text has an error; in this case only the buffer, the error code and the error"
            + " position change", () -> {
                for (String text : new String[] {"", "warehouse;", SETUP + "x", SETUP + "batch a 1000 1 1;", SETUP + "batch b", "\0",
                    Scene.textOfBatches(21), SETUP + "product b 1;", SETUP + "batch a 1 1 1"}) {
                    Check.unfit("'" + text + "'", () -> with(text).load());
                    Check.sameSight("the state after '" + text + "'", Sight.ofStateAndOutput(Scene::busy), Sight.ofStateAndOutput(() -> {
                        BatchWarehouse x = with(text);
                        loadOf(x);
                        return x;
                    }));
                }
            });
    }

    private static void codeAndPosition(String what, BatchWarehouse x, int code, int position) {
        Check.due("code " + what, code, x::errorCode);
        Check.due("position " + what, position, x::errorPosition);
        Check.due("code again", code, x::errorCode);
        Check.due("position again", position, x::errorPosition);
    }

    private static void latestText() {
        BatchWarehouse x = new BatchWarehouse();
        Check.put(x, "issue bread 1;");
        runOf(x);
        codeAndPosition("of a script", x, 3, 6);
        Check.put(x, "warehouse;product a 1000;");
        loadOf(x);
        codeAndPosition("of a setup", x, 2, 20);
        runOf(x);
        codeAndPosition("of an empty script", x, 0, -1);
        loadOf(x);
        codeAndPosition("of an empty setup", x, 1, 0);
        Check.put(x, "ship 0;");
        runOf(x);
        codeAndPosition("of a script that stops", x, 0, -1);
        Check.put(x, "  !");
        runOf(x);
        codeAndPosition("of a bad byte", x, 1, 2);
        Check.put(x, SETUP);
        loadOf(x);
        codeAndPosition("of a valid setup", x, 0, -1);
    }

    private static void errorCode() throws Exception {
        Edges.section("Promise 5");
        Edges.edge("Returns the error code of the latest call of load() or runScript().", InputEdgesTest::latestText);
        Edges.edge("Returns 1 to 4; 0 if that text had no error or there was no such call.", () -> {
            Check.due("no call", 0, () -> new BatchWarehouse().errorCode());
            String[] texts = {SETUP, "x", "warehouse;product a 1000;", "warehouse;product abcdefg 1;", Scene.textOfBatches(21)};
            for (int code = 0; code <= 4; code++) {
                BatchWarehouse x = with(texts[code]);
                loadOf(x);
                Check.due("code " + code, code, x::errorCode);
            }
            String[] scripts = {"", "x", null, "issue bread 1;", "writeoff;".repeat(31)};
            for (int code = 0; code <= 4; code++) {
                if (code != 2) {
                    BatchWarehouse x = with(scripts[code]);
                    runOf(x);
                    Check.due("code " + code + " of a script", code, x::errorCode);
                }
            }
            BatchWarehouse x = new BatchWarehouse();
            x.issue(0, 1);
            Check.outcome(() -> x.issue(0, 0));
            Check.due("no text yet", 0, x::errorCode);
        });
    }

    private static void errorPosition() throws Exception {
        Edges.section("Promise 6");
        Edges.edge("Returns the error position of the latest call of load() or runScript().", InputEdgesTest::latestText);
        Edges.edge("Returns the position in the text; NONE if that text had no error or there was no such call.", () -> {
            Check.due("no call", BatchWarehouse.NONE, () -> new BatchWarehouse().errorPosition());
            Check.due("an empty text", 0, () -> positionOfLoad(""));
            Check.due("the first byte", 0, () -> positionOfLoad("?"));
            Check.due("the last byte", 599, () -> positionOfLoad(" ".repeat(599) + "?"));
            Check.due("the end of a full text", 600, () -> positionOfLoad(" ".repeat(600)));
            Check.due("a valid full text", BatchWarehouse.NONE, () -> positionOfLoad(SETUP + "\n".repeat(600 - SETUP.length())));
            BatchWarehouse x = new BatchWarehouse();
            x.issue(0, 1);
            Check.outcome(() -> x.issue(0, 0));
            Check.due("no text yet", BatchWarehouse.NONE, x::errorPosition);
        });
    }

    private static int positionOfLoad(String text) {
        BatchWarehouse x = with(text);
        loadOf(x);
        return x.errorPosition();
    }
}
