/** What the tests share: a tally of wrong answers, and texts that are put into a warehouse. */
final class Check {
    /** A call that may throw. */
    interface Call {
        Object answer();
    }

    private static int checks = 0;
    private static int wrong = 0;
    private static String about = "";

    private Check() {
    }

    /** What the next checks are about; told with each wrong answer. */
    static void about(String subject) {
        about = subject.isEmpty() ? "" : subject + ": ";
    }

    /** What the call answers, or what it throws. */
    static Object outcome(Call call) {
        try {
            return call.answer();
        } catch (RuntimeException e) {
            return thrown(e.getClass());
        }
    }

    static String thrown(Class<? extends RuntimeException> type) {
        return "throws " + type.getName();
    }

    /** The call must answer this. */
    static void due(String what, Object want, Call call) {
        note(what, want, outcome(call));
    }

    /** The call must throw this very class: a class below it is what the machine throws. */
    static void fails(String what, Class<? extends RuntimeException> want, Call call) {
        due(what, thrown(want), call);
    }

    static void outside(String what, Call call) {
        fails(what, IndexOutOfBoundsException.class, call);
    }

    static void unfit(String what, Call call) {
        fails(what, IllegalArgumentException.class, call);
    }

    static void impossible(String what, Call call) {
        fails(what, IllegalStateException.class, call);
    }

    static void note(String what, Object want, Object got) {
        checks++;
        if (!want.equals(got)) {
            wrong++;
            System.out.println("  " + about + what + ": answered " + got + ", due is " + want);
        }
    }

    /** Both must look the same; a wrong answer tells the first lines that differ. */
    static void sameSight(String what, String want, String got) {
        String[] wanted = want.split("\n", -1);
        String[] seen = got.split("\n", -1);
        int line = 0;
        while (line < wanted.length - 1 && line < seen.length - 1 && wanted[line].equals(seen[line])) {
            line++;
        }
        boolean same = want.equals(got);
        note(what, same ? "the same" : "line " + line + ": " + wanted[line], same ? "the same" : "line " + line + ": " + seen[line]);
    }

    /** Prints the tally and ends with exit code 1 if an answer was wrong. */
    static void end(String test) {
        System.out.println(test + ": " + checks + " checks, " + wrong + " wrong");
        if (wrong != 0 || checks == 0) {
            System.exit(1);
        }
    }

    /** Appends exactly these characters, as bytes, to the input buffer. */
    static void put(BatchWarehouse x, String text) {
        int length = 0;
        for (int from = 0; from < text.length(); from += 20) {
            int[] words = new int[5];
            for (int i = 0; i < 20; i++) {
                int letter = from + i < text.length() ? text.charAt(from + i) & 255 : ' ';
                words[i / 4] = words[i / 4] << 8 | letter;
            }
            length = x.append(words[0], words[1], words[2], words[3], words[4]);
        }
        int padding = (20 - text.length() % 20) % 20;
        if (padding > 0) {
            x.truncate(length - padding);
        }
    }

    /** A new warehouse with this setup. */
    static BatchWarehouse loaded(String setup) {
        BatchWarehouse x = new BatchWarehouse();
        put(x, setup);
        x.load();
        return x;
    }

    /** Runs a script and returns the number of executed commands. */
    static int script(BatchWarehouse x, String text) {
        put(x, text);
        return x.runScript();
    }

    /** The text that writeBatches writes. */
    static String batches(BatchWarehouse x, int product) {
        int length = x.writeBatches(product);
        StringBuilder text = new StringBuilder();
        for (int i = 0; i < length; i++) {
            text.append((char) x.outputByte(i));
        }
        return text.toString();
    }

    /** The name of a product, read letter by letter until it ends. */
    static String name(BatchWarehouse x, int product) {
        StringBuilder name = new StringBuilder();
        for (int i = 0; i < 7; i++) {
            try {
                name.append((char) x.nameByte(product, i));
            } catch (IndexOutOfBoundsException e) {
                return name.toString();
            }
        }
        return name.toString();
    }
}
