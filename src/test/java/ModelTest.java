import java.nio.charset.StandardCharsets;
import java.util.Random;

/** Runs of calls by draws (always the same ones), each answered by the class as by the Model. */
public final class ModelTest {
    private static final Check CHECK = new Check("ModelTest");
    private static final String[] NAMES = {"a", "ab", "abc", "nic", "nvme", "disk", "diskab", "sevenxx", "sevenxy", "z", "b"};
    private static final String[] PIECES = {"cpus", "vectors", "kept", "off", "device", "single", "group", "managed",
        "on", "start", "stop", "claim", "raise", "late", "move", "to", "tick", "plug", "unplug", ";", "0", "1", "2", "3",
        "4", "7", "8", "9", "16", "31", "100", "1000", "x", "abcdefg", "abcdefgh", "abcdefghi", "#", "A", "\n", " "};

    private final Random random;
    private final VectorDeal x = new VectorDeal();
    private final Model m = new Model();
    private final StringBuilder story = new StringBuilder();
    private int devices;

    private ModelTest(long seed) {
        random = new Random(seed);
    }

    public static void main(String[] args) {
        int runs = args.length > 0 ? Integer.parseInt(args[0]) : 1500;
        for (int run = 0; run < runs; run++) {
            if (!new ModelTest(run).run()) {
                break;
            }
        }
        for (int run = 0; run < 4 * runs; run++) {
            if (!new ModelTest(run).texts()) {
                break;
            }
        }
        CHECK.finish();
    }

    private boolean run() {
        boolean same = read(boardText(), true);
        for (int i = 0; same && i < 150; i++) {
            same = act() && same;
            same = same && (i % 5 != 0 || askAll());
        }
        return same && askAll();
    }

    /** Texts with a piece or a byte too many, too few, or another. */
    private boolean texts() {
        boolean same = read(boardText(), true);
        for (int i = 0; same && i < 10; i++) {
            boolean board = random.nextInt(3) == 0;
            same = read(spoilt(board ? boardText() : ordersText()), board);
        }
        return same && askAll();
    }

    private boolean due(String what, long got, long want) {
        story.append(what).append(" = ").append(want).append('\n');
        CHECK.due(what, got, want);
        if (got != want) {
            System.out.println(story);
        }
        return got == want;
    }

    private boolean due(String what, boolean got, boolean want) {
        return due(what, got ? 1 : 0, want ? 1 : 0);
    }

    private int below(int n) {
        return random.nextInt(n);
    }

    private String boardText() {
        StringBuilder text = new StringBuilder();
        int cpus = below(8) == 0 ? 4 : 1 + below(8);
        int vectors = below(4) == 0 ? 8 + below(25) : 8 + below(4);
        text.append("cpus ").append(cpus).append(";vectors ").append(vectors).append(";");
        for (int i = below(3); i > 0; i--) {
            text.append("kept").append(numbers(vectors, 1 + below(5))).append(";");
        }
        if (below(3) == 0) {
            text.append("off").append(numbers(cpus, 1 + below(2))).append(";");
        }
        int devs = below(11);
        int from = below(NAMES.length);
        for (int d = 0; d < devs; d++) {
            text.append(" device ").append(NAMES[(from + d) % NAMES.length]).append(wants());
            if (below(2) == 0) {
                text.append(" on").append(numbers(cpus, 1 + below(cpus)));
            }
            text.append(";\n");
        }
        return text.toString();
    }

    private String wants() {
        switch (below(3)) {
            case 0:
                return " single";
            case 1:
                return " group " + (1 << 1 + below(3));
            default:
                return " managed " + (1 + below(8));
        }
    }

    private String numbers(int limit, int howMany) {
        StringBuilder text = new StringBuilder();
        boolean[] told = new boolean[limit];
        for (int i = 0; i < howMany; i++) {
            int n = below(limit);
            if (!told[n] || below(20) == 0) {
                text.append(' ').append(n);
            }
            told[n] = true;
        }
        return text.toString();
    }

    private String name() {
        return devices > 0 && below(40) != 0 ? m.cf.devs.get(below(devices)).name : NAMES[below(NAMES.length)];
    }

    private String ordersText() {
        StringBuilder text = new StringBuilder();
        int cpus = m.cf.cpus;
        for (int i = below(12); i > 0; i--) {
            switch (below(9)) {
                case 0:
                case 1:
                    text.append("start ").append(name());
                    break;
                case 2:
                    text.append(below(2) == 0 ? "stop " : "claim ").append(name());
                    break;
                case 3:
                case 4:
                    text.append("raise ").append(name()).append(' ').append(below(3) == 0 ? below(8) : 0);
                    break;
                case 5:
                    text.append("late ").append(name()).append(' ').append(below(2));
                    break;
                case 6:
                    text.append("move ").append(name()).append(' ').append(below(2)).append(" to").append(numbers(cpus, 1 + below(cpus)));
                    break;
                case 7:
                    text.append("tick ").append(1 + below(4));
                    break;
                default:
                    text.append(below(2) == 0 ? "plug " : "unplug ").append(below(cpus));
                    break;
            }
            text.append(";");
        }
        return text.toString();
    }

    private String spoilt(String text) {
        StringBuilder changed = new StringBuilder(text);
        for (int i = below(3); i >= 0 && changed.length() > 0; i--) {
            int at = below(changed.length());
            switch (below(5)) {
                case 0:
                    changed.deleteCharAt(at);
                    break;
                case 1:
                    changed.insert(at, PIECES[below(PIECES.length)]);
                    break;
                case 2:
                    changed.insert(at, " " + PIECES[below(PIECES.length)] + " ");
                    break;
                case 3:
                    changed.setLength(at);
                    break;
                default:
                    changed.setCharAt(at, PIECES[below(PIECES.length)].charAt(0));
                    break;
            }
        }
        return changed.toString();
    }

    private boolean read(String text, boolean board) {
        byte[] bytes = text.getBytes(StandardCharsets.ISO_8859_1);
        boolean same = true;
        for (int at = 0; at < bytes.length; at += 20) {
            int[] five = new int[5];
            for (int i = 0; i < 5; i++) {
                five[i] = Check.four(bytes, at + 4 * i);
            }
            same &= due("feed", x.feed(five[0], five[1], five[2], five[3], five[4]), m.feed(five));
        }
        same &= due("end " + bytes.length, x.end(bytes.length), m.end(bytes.length));
        story.append("text: ").append(text).append('\n');
        same &= board ? due("board", x.board(), m.board()) : due("orders", x.orders(), m.orders());
        devices = m.cf.devs.size();
        same &= due("fault 0", x.fault(0), m.fault);
        same &= due("fault 1", x.fault(1), m.place);
        return same & due("refused", x.refused(), m.refused);
    }

    private boolean act() {
        int d = below(12) - 1;
        int l = below(3) == 0 ? below(10) - 1 : below(2);
        int c = below(30) == 0 ? below(10) - 1 : below(m.cf.cpus);
        int cpus = below(30) == 0 ? random.nextInt() : below(256);
        if (devices > 0 && below(10) != 0) {
            d = below(devices);
        }
        int n = below(20) == 0 ? below(103) - 1 : 1 + below(2);
        switch (below(20)) {
            case 0:
            case 1:
            case 2:
                return due("start " + d, x.start(d), m.start(d));
            case 3:
                return due("stop " + d, x.stop(d), m.stop(d));
            case 4:
                return below(3) != 0 || due("claim " + d, x.claim(d), m.claim(d));
            case 5:
            case 6:
            case 7:
            case 8:
                boolean late = below(3) == 0;
                return due("raise " + d + " " + l + " " + late, x.raise(d, l, late), m.raise(d, l, late));
            case 9:
            case 10:
                return due("tick " + n, x.tick(n), m.tick(n));
            case 11:
            case 12:
            case 13:
                return due("move " + d + " " + l + " " + cpus, x.move(d, l, cpus), m.move(d, l, cpus));
            case 14:
            case 15:
                return due("unplug " + c, x.unplug(c), m.unplug(c));
            case 16:
                return due("plug " + c, x.plug(c), m.plug(c));
            case 17:
                return below(2) == 0 ? due("undo", x.undo(), m.undo()) : due("redo", x.redo(), m.redo());
            case 18:
                return read(ordersText(), false);
            default:
                return rare();
        }
    }

    private boolean rare() {
        int box = below(4) - 1;
        switch (below(4)) {
            case 0:
                return due("image " + box, x.image(box), m.image(box));
            case 1:
                return due("back " + box, x.back(box), m.back(box));
            case 2:
                return read(below(2) == 0 ? boardText() : spoilt(boardText()), true);
            default:
                boolean same = true;
                for (int i = 0; i < 20; i++) {
                    same = same && (i % 10 < 6 ? due("undo", x.undo(), m.undo()) : due("redo", x.redo(), m.redo()));
                }
                return same;
        }
    }

    private boolean askAll() {
        boolean same = due("law", x.law(), 0);
        for (int what = -1; what <= 14; what++) {
            same &= due("about " + what, x.about(what), m.about(what));
        }
        for (int c = -1; c <= m.cf.cpus; c++) {
            for (int what = -1; what <= 7; what++) {
                same &= due("cpu " + c + " " + what, x.cpu(c, what), m.cpu(c, what));
            }
            for (int what = -1; what <= 2; what++) {
                same &= due("without " + c + " " + what, x.without(c, what), m.without(c, what));
            }
            for (int v = -1; v <= m.cf.vectors; v++) {
                for (int what = -1; what <= 4; what++) {
                    same &= due("vector " + c + " " + v + " " + what, x.vector(c, v, what), m.vector(c, v, what));
                }
            }
        }
        return same & askDevices() & askSums();
    }

    private boolean askDevices() {
        boolean same = true;
        for (int d = -1; d <= devices; d++) {
            for (int what = -1; what <= 8; what++) {
                same &= due("device " + d + " " + what, x.device(d, what), m.device(d, what));
                same &= due("alike " + d + " " + what, x.alike(d, what), m.alike(d, what));
            }
            for (int l = -1; l <= 8; l++) {
                same &= due("spread " + d + " " + l, x.spread(d, l), m.spread(d, l));
                for (int what = -1; what <= 6; what++) {
                    same &= due("line " + d + " " + l + " " + what, x.line(d, l, what), m.line(d, l, what));
                }
            }
        }
        return same;
    }

    private boolean askSums() {
        boolean same = due("balance", x.balance(), m.balance());
        same &= due("quiet", x.quiet(), m.quiet());
        same &= due("nearest", x.nearest(), m.nearest());
        for (int n = -1; n <= 9; n++) {
            same &= due("room " + n, x.room(n), m.room(n));
            for (int what = -1; what <= 3; what++) {
                same &= due("clear " + n + " " + what, x.clear(n, what), m.clear(n, what));
            }
        }
        for (int k = -1; k <= 40; k++) {
            for (int what = -1; what <= 5; what++) {
                same &= due("log " + k + " " + what, x.log(k, what), m.log(k, what));
            }
        }
        int seed = below(10002) - 1;
        int n = below(5) == 0 ? below(503) - 1 : below(40);
        for (int what = -1; what <= 4; what++) {
            same &= due("storm " + seed + " " + n + " " + what, x.storm(seed, n, what), m.storm(seed, n, what));
        }
        return same;
    }
}
