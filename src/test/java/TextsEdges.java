/** The edges of "Texts" and "Errors", each with the sentence that names it; TermsEdgesTest runs them. */
final class TextsEdges {
    private static final String HEAD = "warehouse;product a 1;";

    private TextsEdges() {
    }

    static void test() {
        buffer();
        tokens();
        setupGrammar();
        scriptGrammar();
        errors();
        codes();
        execution();
    }

    static String products(int count) {
        StringBuilder text = new StringBuilder();
        for (int i = 0; i < count; i++) {
            text.append("product ").append((char) ('a' + i)).append(" 1;");
        }
        return text.toString();
    }

    private static BatchWarehouse asking(String text) {
        BatchWarehouse x = Scene.busy();
        x.truncate(0);
        Check.put(x, text);
        return x;
    }

    /** The setup text has its first error, with this code, where the question mark stands. */
    static void setup(String marked, int code) {
        wrong(marked, code, asking(marked.replace("?", "")), x -> x.load());
    }

    static void script(String marked, int code) {
        wrong(marked, code, asking(marked.replace("?", "")), x -> x.runScript());
    }

    private interface Reading {
        int by(BatchWarehouse x);
    }

    private static void wrong(String marked, int code, BatchWarehouse x, Reading reading) {
        Check.unfit(marked, () -> reading.by(x));
        Check.due("code of " + marked, code, x::errorCode);
        Check.due("position of " + marked, marked.indexOf('?'), x::errorPosition);
        Check.due("day after " + marked, 7, x::day);
        Check.due("products after " + marked, 3, x::productCount);
    }

    /** A valid setup with so many products and batches. */
    private static void validSetup(String text, int products, int batches) {
        BatchWarehouse x = asking(text);
        Check.due(text, products, x::load);
        Check.due("batches of " + text, batches, x::batchCount);
        Check.due("code of " + text, 0, x::errorCode);
        Check.due("position of " + text, BatchWarehouse.NONE, x::errorPosition);
    }

    private static void validScript(String text, int executed) {
        BatchWarehouse x = asking(text);
        Check.due(text, executed, x::runScript);
        Check.due("code of " + text, 0, x::errorCode);
        Check.due("position of " + text, BatchWarehouse.NONE, x::errorPosition);
    }

    private static void buffer() {
        Edges.plain("Texts.");
        Edges.edge("The input buffer holds at most 600 bytes.", () -> {
            BatchWarehouse x = Scene.fresh();
            for (int length = 20; length <= 600; length += 20) {
                int due = length;
                Check.due("up to " + due, due, () -> x.append(0, 0, 0, 0, 0));
            }
            Check.impossible("620", () -> x.append(0, 0, 0, 0, 0));
            Check.due("600 still", 600, () -> x.truncate(600));
            setup(HEAD + " ".repeat(600 - HEAD.length() - 10) + "product bb?", 1);
            validSetup(HEAD + " ".repeat(600 - HEAD.length() - 12) + "product b 1;", 2, 0);
            validScript(" ".repeat(591) + "writeoff;", 1);
        });
        Edges.edge("It is empty at first.", () -> {
            Check.due("length", 0, () -> Sight.inputLength(Scene::fresh));
            Check.unfit("no byte", () -> Scene.fresh().truncate(1));
            Check.due("an empty script", 0, () -> Scene.fresh().runScript());
            Check.due("the first bytes", 20, () -> Scene.fresh().append(0, 0, 0, 0, 0));
        });
    }

    private static void tokens() {
        Edges.edge("The tokens of a text are words, numbers and semicolons.", () -> {
            validSetup("warehouse;product a 1;batch a 1 1 1;", 1, 1);
            setup("warehouse;product a 1?,", 1);
            setup("?:warehouse;product a 1;", 1);
        });
        Edges.edge("A word is a maximal run of the letters a to z.", () -> {
            setup("warehouse;?producta 1;", 1);
            setup("?warehouseproduct a 1;", 1);
            setup("?ware house;product a 1;", 1);
            validSetup("warehouse;product abcdef 1;product zyxwvu 1;", 2, 0);
            validSetup("warehouse;product a1;batch a1 1 1;", 1, 1);
            for (char beside : new char[] {'`', '{', '@', '['}) {
                setup("warehouse;product b?" + beside + " 1;", 1);
            }
            for (char beside : new char[] {'A', 'Z', 'M'}) {
                setup("warehouse;product b?" + beside + " 1;", 1);
            }
        });
        Edges.edge("A number is a maximal run of decimal digits.", () -> {
            validScript("days 0009;", 1);
            validSetup("warehouse;product a 0000;batch a 0999 0000 0001;", 1, 1);
            script("days ?00009;", 1);
            script("days 1 ?2;", 1);
            script("days 12?/;", 1);
            script("days 12?:;", 1);
            script("days ?-1;", 1);
            script("days ?+1;", 1);
            script("days 1?.5;", 1);
            BatchWarehouse x = Check.loaded("warehouse;product z 0;batch z 0123 4567 0890;");
            Check.due("all digits", 123, () -> x.quantity(0));
            Check.due("all digits", 4567, () -> x.expiryDay(0));
            Check.due("all digits", 890, () -> x.unitCost(0));
        });
        Edges.edge("Spaces (byte 32) and line feeds (byte 10) separate tokens and have no other meaning.", () -> {
            validSetup("warehouse;product a 1;", 1, 0);
            validSetup(" \n warehouse \n;\nproduct\na\n1\n;\n \n", 1, 0);
            validSetup("warehouse;product\na 1;batch a\n\n1  1\n1;", 1, 1);
            validScript("\n", 0);
            validScript(" ", 0);
            validScript("\n days \n 1 \n ; ", 1);
            setup("?ware house;product a 1;", 1);
            setup("warehouse;product a 1 ?2;", 1);
        });
        Edges.edge("A word of more than 9 letters, a number of more than 4 digits and any other byte are invalid tokens.", () -> {
            setup("warehouse;product ?abcdefghi 1;", 3);
            setup("warehouse;product ?abcdefghij 1;", 1);
            setup("warehouse;product ?" + "a".repeat(570) + ";", 1);
            setup("warehouse;product a ?9999;", 2);
            setup("warehouse;product a ?10000;", 1);
            setup("warehouse;product a ?" + "9".repeat(560) + ";", 1);
            setup("warehouse;product a ?4294967296;", 1);
            setup("warehouse;product a ?4294967297;", 1);
            for (int value = 0; value < 256; value++) {
                boolean known = value >= 'a' && value <= 'z' || value >= '0' && value <= '9' || value == ';' || value == ' ' || value == '\n';
                if (!known && value != '?') {
                    setup("warehouse;product b ?" + (char) value + "1;", 1);
                    setup("?" + (char) value, 1);
                    script("days 1;?" + (char) value, 1);
                }
            }
            BatchWarehouse x = asking("days 1;?");
            Check.unfit("a question mark", x::runScript);
            Check.due("its position", 7, x::errorPosition);
        });
    }

    private static void setupGrammar() {
        Edges.plain("The grammar is as follows, with literal words in quotes:");
        Edges.edge("setup = \"warehouse\" \";\" product \";\" { product \";\" } { batch \";\" }", () -> {
            validSetup(HEAD, 1, 0);
            validSetup("warehouse;" + products(8), 8, 0);
            validSetup(HEAD + "batch a 1 1 1;", 1, 1);
            validSetup(Scene.textOfBatches(20), 1, 20);
            setup("?", 1);
            setup("warehouse?", 1);
            setup("warehouse;?", 1);
            setup("?product a 1;", 1);
            setup("warehouse ?product a 1;", 1);
            setup("warehouse;product a 1?", 1);
            setup("warehouse;?batch a 1 1 1;", 1);
            setup("warehouse;product a 1 ?product b 1;", 1);
            setup(HEAD + "batch a 1 1 1?", 1);
            setup(HEAD + "batch a 1 1 1;?product b 1;", 1);
            setup(HEAD + "batch a 1 1 1;?;", 1);
            setup(HEAD + "?;", 1);
            setup(HEAD + "?warehouse;", 1);
            setup(HEAD + "?days 1;", 1);
            setup(HEAD + "?a", 1);
            setup(HEAD + "?1", 1);
        });
        Edges.edge("product = \"product\" name minimum", () -> {
            setup("warehouse;product?", 1);
            setup("warehouse;product?;", 1);
            setup("warehouse;product ?1 a;", 1);
            setup("warehouse;product a?", 1);
            setup("warehouse;product a?;", 1);
            setup("warehouse;product a ?a;", 1);
            setup("warehouse;product a 1 ?1;", 1);
            setup("warehouse;?products a 1;", 1);
            setup("warehouse;?produc a 1;", 1);
        });
        Edges.edge("batch = \"batch\" name quantity expiry cost", () -> {
            setup(HEAD + "batch?", 1);
            setup(HEAD + "batch?;", 1);
            setup(HEAD + "batch ?1 1 1 1;", 1);
            setup(HEAD + "batch a?;", 1);
            setup(HEAD + "batch a?", 1);
            setup(HEAD + "batch a ?a 1 1;", 1);
            setup(HEAD + "batch a 1?;", 1);
            setup(HEAD + "batch a 1?", 1);
            setup(HEAD + "batch a 1 1?;", 1);
            setup(HEAD + "batch a 1 1?", 1);
            setup(HEAD + "batch a 1 1 ?a;", 1);
            setup(HEAD + "batch a 1 1 1 ?1;", 1);
            setup(HEAD + "?batches a 1 1 1;", 1);
        });
        Edges.edge("In a text, quantities of batches are 1 to 999.", () -> {
            setup(HEAD + "batch a ?0 1 1;", 2);
            setup(HEAD + "batch a ?0000 1 1;", 2);
            validSetup(HEAD + "batch a 1 1 1;", 1, 1);
            validSetup(HEAD + "batch a 999 1 1;", 1, 1);
            setup(HEAD + "batch a ?1000 1 1;", 2);
            setup(HEAD + "batch a ?9999 1 1;", 2);
        });
    }

    private static void scriptGrammar() {
        Edges.edge("script = { command \";\" }", () -> {
            validScript("", 0);
            validScript("writeoff;", 1);
            validScript("writeoff;writeoff;", 2);
            script("?;", 1);
            script("writeoff?", 1);
            script("writeoff ?writeoff;", 1);
            script("writeoff;?;", 1);
            script("writeoff;writeoff?", 1);
        });
        Edges.edge("command = \"receive\" name quantity expiry cost | \"issue\" name quantity | \"reserve\" name quantity day | \"ship\" reservation"
            + " | \"cancel\" reservation | \"refill\" reservation | \"count\" batch quantity | \"writeoff\" | \"days\" days", () -> {
                String[] commands = {"receive milk 1 9 1", "issue milk 1", "reserve milk 1 9", "ship 9", "cancel 0", "refill 0", "count 3 9", "writeoff",
                    "days 1"};
                for (String command : commands) {
                    validScript(command + ";", command.equals("ship 9") ? 0 : 1);
                    script(command + "?", 1);
                    script(command + " ?1;", 1);
                    script(command + " ?milk;", 1);
                    if (command.indexOf(' ') > 0) {
                        String shorter = command.substring(0, command.lastIndexOf(' '));
                        script(shorter + "?;", 1);
                        script(shorter + "?", 1);
                        script(command.substring(0, command.indexOf(' ')) + " ?!", 1);
                        boolean named = command.contains("milk");
                        script(command.substring(0, command.indexOf(' ')) + (named ? " ?1;" : " ?milk;"), 1);
                    }
                    script("?x" + command + ";", 1);
                }
                script("?milk;", 1);
                script("?1;", 1);
                script("?warehouse;", 1);
                script("?product a 1;", 1);
                script("?batch milk 1 1 1;", 1);
                script("?writeof;", 1);
                script("?writeoffs;", 1);
                script("?day 1;", 1);
            });
        Edges.edge("The commands call the methods receive, issue, reserve, ship, cancel, refill, takeStock, writeOffExpired and passDays.", () -> {
            sameAs("receive rice 999 9999 998;", x -> x.receive(1, 999, 9999, 998));
            sameAs("issue rice 87;", x -> x.issue(1, 87));
            sameAs("reserve milk 7 9;", x -> x.reserve(0, 7, 9));
            sameAs("receive rice 5 8 9;reserve rice 3 8;ship 4;", x -> x.receive(1, 5, 8, 9) + x.reserve(1, 3, 8) + x.ship(4));
            sameAs("cancel 3;", x -> x.cancel(3));
            sameAs("refill 0;", x -> x.refill(0));
            sameAs("count 3 0;", x -> x.takeStock(3, 0));
            sameAs("count 1 999;", x -> x.takeStock(1, 999));
            sameAs("writeoff;", x -> x.writeOffExpired());
            sameAs("days 999;", x -> x.passDays(999));
            sameAs("days 1;", x -> x.passDays(1));
        });
    }

    /** A script does to the state what the calls do. */
    private static void sameAs(String text, Reading calls) {
        Check.sameSight(text, Sight.ofState(() -> {
            BatchWarehouse x = asking("");
            calls.by(x);
            return x;
        }), Sight.ofState(() -> {
            BatchWarehouse x = asking(text);
            x.runScript();
            return x;
        }));
    }

    private static void errors() {
        Edges.plain("Errors.");
        Edges.edge("A text is parsed from left to right.", () -> {
            setup("warehouse;product a ?1000;product abcdefg 1;", 2);
            setup("warehouse;product ?abcdefg 1000;", 3);
            setup("warehouse;product b 1;batch ?a 1 1 1;product a 1;", 3);
            script("issue ?bread 1;days 10000;", 3);
        });
        Edges.edge("The first token with an error determines the error code and the error position.", () -> {
            setup(HEAD + "batch a ?0 1 0;!", 2);
            setup(HEAD + "batch a 1 1 ?0;!", 2);
            setup(HEAD + "batch ?b 0 10000 0;", 3);
            setup(HEAD + "product ?a 1000", 3);
            setup("warehouse;" + products(8) + "?product a 1000;", 4);
            setup("warehouse;" + products(7) + "product ?a 1;product i 1;", 3);
            script("writeoff;".repeat(30) + "?issue bread;", 4);
            script("writeoff;".repeat(29) + "issue ?bread 1;writeoff;", 3);
        });
        Edges.edge("The error position is the index of the first byte of this token, or the length of the text if the text ends too early.", () -> {
            setup("?", 1);
            setup("   ?", 1);
            setup("\n\n?", 1);
            setup("?x", 1);
            setup("  ?abcdefghij", 1);
            setup("warehouse;product a   ?12345;", 1);
            setup("warehouse;product a 1 \n ?", 1);
            setup("warehouse;product a  \n?9999", 2);
            setup(" ".repeat(600) + "?", 1);
            setup(" ".repeat(599) + "?x", 1);
            script("issue milk 1?", 1);
            script("issue milk 1  ?", 1);
            script("issue milk?", 1);
            script("issue  ?bread", 3);
            script("ship" + " ".repeat(596) + "?", 1);
        });
        Edges.edge("If several errors apply to the same token, the lowest code is reported:", () -> {
            setup("warehouse;product ?abcdefghij 1;", 1);
            setup("warehouse;product a ?10000;", 1);
            setup(HEAD + "batch ?abcdefghij 1 1 1;", 1);
            setup(HEAD + "batch a ?00000 1 1;", 1);
            setup(HEAD + "batch a ?b 1 1;", 1);
            setup(HEAD + "batch ?0 1 1 1;", 1);
            setup("warehouse;" + products(8) + "batch a 1 1 1;?product i 1;", 1);
            setup("warehouse;" + products(8) + "?productproduct i 1;", 1);
            script("writeoff;".repeat(30) + "?milk;", 1);
            script("writeoff;".repeat(30) + "?;", 1);
            script("writeoff;".repeat(30) + "?1", 1);
            script("writeoff;".repeat(30) + "?abcdefghij", 1);
            script("writeoff;".repeat(30) + "?!", 1);
            script("issue ?abcdefghij 1;", 1);
        });
    }

    private static void codes() {
        Edges.edge("code 1: an invalid token, a token that the grammar does not allow at this place, or an unexpected end of the text;", () -> {
            setup("warehouse;product a ?12345;", 1);
            setup("warehouse;product a ?;", 1);
            setup("warehouse;product a?", 1);
            script("days ?12345;", 1);
            script("days ?;", 1);
            script("days?", 1);
        });
        Edges.edge("code 2: a number out of range in a setup text (numbers in a script are not checked by the parser);", () -> {
            validSetup("warehouse;product a 0;", 1, 0);
            validSetup("warehouse;product a 999;", 1, 0);
            setup("warehouse;product a ?1000;", 2);
            setup(HEAD + "batch a ?0 1 1;", 2);
            setup(HEAD + "batch a ?1000 1 1;", 2);
            validSetup(HEAD + "batch a 1 0 1;", 1, 1);
            validSetup(HEAD + "batch a 1 9999 1;", 1, 1);
            setup(HEAD + "batch a 1 1 ?0;", 2);
            setup(HEAD + "batch a 1 1 ?1000;", 2);
            String[] refused = {"receive milk 0 1 1;", "receive milk 9999 1 1;", "receive milk 1 1 0;", "receive milk 1 1 9999;", "issue milk 0;",
                "issue milk 9999;", "reserve milk 0 9;", "reserve milk 9999 9;", "reserve milk 1 0;", "ship 9999;", "cancel 9999;", "refill 9999;",
                "count 9999 1;", "count 0 9999;", "days 0;", "days 9999;"};
            for (String text : refused) {
                validScript(text, 0);
            }
        });
        Edges.edge("code 3: a name of more than 6 letters, the name of a new product that an earlier product has, or the name of a product that does"
            + " not exist;", () -> {
                validSetup("warehouse;product abcdef 1;", 1, 0);
                setup("warehouse;product ?abcdefg 1;", 3);
                setup("warehouse;product ?abcdefghi 1;", 3);
                setup(HEAD + "product ?a 1;", 3);
                setup("warehouse;" + products(7) + "product ?g 1;", 3);
                setup(HEAD + "batch ?b 1 1 1;", 3);
                setup(HEAD + "batch ?abcdefg 1 1 1;", 3);
                setup(HEAD + "batch ?milk 1 1 1;", 3);
                script("issue ?a 1;", 3);
                script("issue ?mil 1;", 3);
                script("issue ?milks 1;", 3);
                script("receive ?bread 0 0 0;", 3);
                script("reserve ?bread 1 1;", 3);
                script("issue ?abcdefg 1;", 3);
                script("issue ?abcdefghi 1;", 3);
            });
        Edges.edge("code 4: in a setup, the word \"product\" of a 9th product or the word \"batch\" of a 21st batch; the first word of a 31st"
            + " command.", () -> {
                validSetup("warehouse;" + products(8), 8, 0);
                setup("warehouse;" + products(8) + "?product", 4);
                setup("warehouse;" + products(8) + "?product i 1;", 4);
                validSetup(Scene.textOfBatches(20), 1, 20);
                setup(Scene.textOfBatches(20) + "?batch", 4);
                setup(Scene.textOfBatches(20) + "?batch z 1 1 1;", 4);
                validScript("writeoff;".repeat(30), 30);
                validScript("writeoff;".repeat(30) + " \n", 30);
                for (String word : new String[] {"receive", "issue", "reserve", "ship", "cancel", "refill", "count", "writeoff", "days"}) {
                    script("writeoff;".repeat(30) + "?" + word, 4);
                    script("writeoff;".repeat(30) + "?" + word + " 1;", 4);
                }
            });
        Edges.edge("A word of the grammar can be a name wherever the grammar requires a name.", () -> {
            String[] words = {"batch", "issue", "ship", "cancel", "refill", "count", "days"};
            StringBuilder text = new StringBuilder("warehouse;");
            for (String word : words) {
                text.append("product ").append(word).append(" 1;");
            }
            for (String word : words) {
                text.append("batch ").append(word).append(" 9 9 9;");
            }
            validSetup(text.toString(), 7, 7);
            BatchWarehouse x = Check.loaded(text.toString());
            for (String word : words) {
                Check.due(word, 3, () -> Check.script(x, "issue " + word + " 1;receive " + word + " 1 1 1;reserve " + word + " 1 1;"));
            }
            Check.due("seven issues", 7 * 8 + 7, () -> {
                int units = 0;
                for (int p = 0; p < 7; p++) {
                    units += x.onHand(p);
                }
                return units;
            });
            for (String word : new String[] {"warehouse", "product", "receive", "reserve", "writeoff"}) {
                setup("warehouse;product ?" + word + " 1;", 3);
            }
        });
    }

    private static void execution() {
        Edges.edge("A script without an error is executed command by command.", () -> {
            BatchWarehouse x = asking("receive milk 5 99 1;issue milk 12;days 1;receive z 3 7 1;writeoff;reserve z 20 9;");
            Check.due("six commands", 6, x::runScript);
            Check.due("milk, the expired ones written off", 0, () -> x.onHand(0));
            Check.due("z received and written off when it was expired", 3 + 30, () -> x.writtenOffUnits(2) + x.writtenOffUnits(0) - 20);
            Check.due("z reserved", 20, () -> x.reserved(2));
        });
        Edges.edge("Execution stops at the first command whose method would throw an exception; this command and all later ones are not executed.",
            () -> {
                BatchWarehouse x = asking("issue rice 1;issue rice 86;issue rice 1;issue z 1;days 1;");
                Check.due("two are executed", 2, x::runScript);
                Check.due("no more rice", 0, () -> x.onHand(1));
                Check.due("no z was issued", 20, () -> x.onHand(2));
                Check.due("no day has passed", 7, x::day);
                String[] refused = {"receive rice 0 1 1;", "issue rice 88;", "reserve rice 1 6;", "ship 0;", "cancel 1;", "refill 2;", "count 0 5;",
                    "count 5 1;", "days 0;", "days 1000;"};
                for (String text : refused) {
                    Check.sameSight(text, Sight.ofState(() -> asking("")), Sight.ofState(() -> {
                        BatchWarehouse y = asking(text + "days 1;writeoff;");
                        y.runScript();
                        return y;
                    }));
                }
            });
    }
}
