/** The example of README.md. */
public final class Example {
    public static void main(String[] args) {
        BatchWarehouse x = new BatchWarehouse();       // products 0 milk, 1 rice, 2 eggs; day 0
        show("cost of 25 milk", x.issue(0, 25));       // 20 of the batch that expires first, 5 of the other
        show("reservation", x.reserve(1, 40, 7));      // 40 rice, to be shipped on day 7
        show("batches that expired", x.passDays(10));
        show("written off", x.writeOffExpired());
        show("still to undo", x.undo());               // the write-off is undone
        show("milk on hand", x.onHand(0));
        try {
            x.issue(0, 1);                             // what is left of the milk has expired
        } catch (IllegalStateException e) {
            show("milk available", x.availableOn(0, x.day()));
        }

        type(x, "warehouse; product tea 5; product salt 2; batch tea 8 30 120;");
        show("products", x.load());
        type(x, "receive salt 4 90 15; issue tea 3; ship 0; days 1;");
        show("executed commands", x.runScript());      // there is no reservation 0, so it stops there
        type(x, "issue tea 3; issue coffee 1;");
        try {
            x.runScript();
        } catch (IllegalArgumentException e) {
            show("error code", x.errorCode());         // no product has this name
            show("error position", x.errorPosition());
        }
        System.out.println("tea: " + batches(x, 0));
    }

    private static void show(String what, int answer) {
        System.out.println(what + ": " + answer);
    }

    /** Puts a text into the input buffer: 20 bytes a call, cut to its length at last. */
    private static void type(BatchWarehouse x, String text) {
        x.truncate(0);
        for (int i = 0; i < text.length(); i += 20) {
            x.append(four(text, i), four(text, i + 4), four(text, i + 8), four(text, i + 12), four(text, i + 16));
        }
        x.truncate(text.length());
    }

    private static int four(String text, int from) {
        int bytes = 0;
        for (int i = from; i < from + 4; i++) {
            bytes = bytes << 8 | (i < text.length() ? text.charAt(i) : 0);
        }
        return bytes;
    }

    private static String batches(BatchWarehouse x, int product) {
        StringBuilder text = new StringBuilder();
        int length = x.writeBatches(product);
        for (int i = 0; i < length; i++) {
            text.append((char) x.outputByte(i));
        }
        return text.toString();
    }
}
