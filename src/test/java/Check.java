import java.nio.charset.StandardCharsets;

/** What the tests share: answers that are due, and texts that are fed. */
final class Check {
    private final String test;
    private int made;
    private int wrong;

    Check(String test) {
        this.test = test;
    }

    void due(String what, long got, long want) {
        made++;
        if (got != want) {
            wrong++;
            System.out.println(test + ": " + what + " answered " + got + ", due is " + want);
        }
    }

    void due(String what, boolean got, boolean want) {
        due(what, got ? 1 : 0, want ? 1 : 0);
    }

    void finish() {
        System.out.println(test + ": " + made + " answers, " + wrong + " of them wrong");
        if (wrong != 0 || made == 0) {
            System.exit(1);
        }
    }

    static void tape(VectorDeal x, String text) {
        tape(x, text.getBytes(StandardCharsets.ISO_8859_1));
    }

    static void tape(VectorDeal x, byte[] bytes) {
        int before = x.about(12);
        for (int at = 0; at < bytes.length; at += 20) {
            x.feed(four(bytes, at), four(bytes, at + 4), four(bytes, at + 8), four(bytes, at + 12), four(bytes, at + 16));
        }
        x.end(before + bytes.length);
    }

    static int four(byte[] bytes, int at) {
        int number = 0;
        for (int i = at; i < at + 4; i++) {
            number = number << 8 | (i < bytes.length ? bytes[i] & 255 : 0);
        }
        return number;
    }

    static int board(VectorDeal x, String text) {
        tape(x, text);
        return x.board();
    }

    static int orders(VectorDeal x, String text) {
        tape(x, text);
        return x.orders();
    }

    static VectorDeal made(String boardText) {
        VectorDeal x = new VectorDeal();
        if (board(x, boardText) == VectorDeal.NONE) {
            throw new IllegalStateException("no board: " + boardText + " (fault " + x.fault(0) + " at " + x.fault(1) + ")");
        }
        return x;
    }

    static VectorDeal made(String boardText, String ordersText) {
        VectorDeal x = made(boardText);
        int done = orders(x, ordersText);
        if (done == VectorDeal.NONE || x.refused() != 0) {
            throw new IllegalStateException("not all done: " + ordersText + " (" + done + ", refused " + x.refused() + ")");
        }
        return x;
    }
}
