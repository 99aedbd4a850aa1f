import java.nio.charset.StandardCharsets;

/** What the tests share: answers that are due, and texts that are fed. */
final class Check {
    private final String test;
    private int made;
    private int wrong;

    Check(String test) {
        this.test = test;
    }

    void due(String what, long got, long want) {
        made++;
        if (got != want) {
            wrong++;
            System.out.println(test + ": " + what + " answered " + got + ", due is " + want);
        }
    }

    void due(String what, boolean got, boolean want) {
        due(what, got ? 1 : 0, want ? 1 : 0);
    }

    /** Two pictures of an object, which tell what differs. */
    void same(String what, String got, String want) {
        made++;
        if (!got.equals(want)) {
            wrong++;
            System.out.println(test + ": " + what + " differs: " + difference(got, want));
        }
    }

    private static String difference(String got, String want) {
        String[] gots = got.split(";");
        String[] wants = want.split(";");
        StringBuilder text = new StringBuilder();
        for (int i = 0; i < Math.max(gots.length, wants.length); i++) {
            String one = i < gots.length ? gots[i] : "nothing";
            String other = i < wants.length ? wants[i] : "nothing";
            text.append(one.equals(other) ? "" : one + ", due is " + other + "; ");
        }
        return text.toString();
    }

    void finish() {
        System.out.println(test + ": " + made + " answers, " + wrong + " of them wrong");
        if (wrong != 0 || made == 0) {
            System.exit(1);
        }
    }

    static void tape(VectorDeal x, String text) {
        tape(x, text.getBytes(StandardCharsets.ISO_8859_1));
    }

    static void tape(VectorDeal x, byte[] bytes) {
        int before = x.about(12);
        for (int at = 0; at < bytes.length; at += 20) {
            x.feed(four(bytes, at), four(bytes, at + 4), four(bytes, at + 8), four(bytes, at + 12), four(bytes, at + 16));
        }
        x.end(before + bytes.length);
    }

    static int four(byte[] bytes, int at) {
        int number = 0;
        for (int i = at; i < at + 4; i++) {
            number = number << 8 | (i < bytes.length ? bytes[i] & 255 : 0);
        }
        return number;
    }

    static int board(VectorDeal x, String text) {
        tape(x, text);
        return x.board();
    }

    static int orders(VectorDeal x, String text) {
        tape(x, text);
        return x.orders();
    }

    static VectorDeal made(String boardText) {
        VectorDeal x = new VectorDeal();
        if (board(x, boardText) == VectorDeal.NONE) {
            throw new IllegalStateException("no board: " + boardText + " (fault " + x.fault(0) + " at " + x.fault(1) + ")");
        }
        return x;
    }

    static VectorDeal made(String boardText, String ordersText) {
        VectorDeal x = made(boardText);
        int done = orders(x, ordersText);
        if (done == VectorDeal.NONE || x.refused() != 0) {
            throw new IllegalStateException("not all done: " + ordersText + " (" + done + ", refused " + x.refused() + ")");
        }
        return x;
    }

    /** All that ACTS change, as it is asked: not how many ACTS are kept, nor the TAPE, the FAULT, the refusal. */
    static String state(VectorDeal x) {
        StringBuilder text = new StringBuilder();
        for (int what = 0; what <= 13; what++) {
            if (what < 10 || what > 12) {
                text.append("about ").append(what).append(" = ").append(x.about(what)).append(';');
            }
        }
        for (int c = 0; c < x.about(0); c++) {
            for (int what = 0; what <= 6; what++) {
                text.append("cpu ").append(c).append(' ').append(what).append(" = ").append(x.cpu(c, what)).append(';');
            }
            for (int v = 0; v < x.about(1); v++) {
                text.append("vector ").append(c).append(' ').append(v).append(" = ");
                for (int what = 0; what <= 3; what++) {
                    text.append(x.vector(c, v, what)).append(' ');
                }
                text.append(';');
            }
        }
        for (int d = 0; d < x.about(2); d++) {
            for (int what = 0; what <= 7; what++) {
                text.append("device ").append(d).append(' ').append(what).append(" = ").append(x.device(d, what)).append(';');
            }
            for (int l = 0; l < 8; l++) {
                text.append("line ").append(d).append(' ').append(l).append(" = ");
                for (int what = 0; what <= 5; what++) {
                    text.append(x.line(d, l, what)).append(' ');
                }
                text.append(';');
            }
        }
        for (int k = 0; k < 41; k++) {
            text.append("log ").append(k).append(" = ");
            for (int what = 0; what <= 4; what++) {
                text.append(x.log(k, what)).append(' ');
            }
            text.append(';');
        }
        return text.append("law = ").append(x.law()).toString();
    }

    /** The state, and how many ACTS can be undone and redone, the bytes on the TAPE, the FAULT, the refusal. */
    static String whole(VectorDeal x) {
        return state(x) + ";undo = " + x.about(10) + ";redo = " + x.about(11) + ";tape = " + x.about(12)
                + ";fault = " + x.fault(0) + ";place = " + x.fault(1) + ";refused = " + x.refused();
    }
}
