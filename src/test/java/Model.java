import java.util.ArrayList;
import java.util.Arrays;
import java.util.List;
import java.util.regex.Matcher;
import java.util.regex.Pattern;

/**
 * The document once more, written for nothing but likeness to its words: objects instead of bits, copies
 * instead of slots, trials instead of sums. ModelTest holds the class against it.
 */
final class Model {
    static final int NONE = -1;
    private static final String KEYWORDS = " cpus vectors kept off device single group managed on "
            + "start stop claim raise late move to tick plug unplug ";

    enum Kind { FREE, KEPT, HELD, OLD, RESERVED }

    static final class Dev {
        String name;
        int kind;
        int n;
        List<Integer> set = new ArrayList<>();
    }

    static final class Vec {
        Kind kind = Kind.FREE;
        int dev = NONE;
        int line = NONE;
        boolean pending;

        void be(Kind k, int d, int l) {
            kind = k;
            dev = d;
            line = l;
        }

        Vec copy() {
            Vec v = new Vec();
            v.be(kind, dev, line);
            v.pending = pending;
            return v;
        }
    }

    static final class Ln {
        int cpu = NONE;
        int vec = NONE;
        int oldCpu = NONE;
        int oldVec = NONE;
        boolean drains;
        boolean waits;

        Ln copy() {
            Ln l = new Ln();
            l.cpu = cpu;
            l.vec = vec;
            l.oldCpu = oldCpu;
            l.oldVec = oldVec;
            l.drains = drains;
            l.waits = waits;
            return l;
        }
    }

    static final class Config {
        int cpus = 4;
        int vectors = 16;
        List<Integer> kept = new ArrayList<>();
        List<Integer> off = new ArrayList<>();
        List<Dev> devs = new ArrayList<>();
    }

    /** All that acts change. */
    static final class World {
        final Config cf;
        boolean[] online;
        Vec[][] vecs;
        boolean[] started;
        boolean[] promised;
        Ln[][] lines;
        int ticks;
        int[] delivered;
        int[] merged;
        int[] dropped;
        int[] handled;
        List<int[]> log = new ArrayList<>();

        World(Config cf) {
            this.cf = cf;
            int devs = cf.devs.size();
            online = new boolean[cf.cpus];
            vecs = new Vec[cf.cpus][cf.vectors];
            for (int c = 0; c < cf.cpus; c++) {
                online[c] = !cf.off.contains(c);
                for (int v = 0; v < cf.vectors; v++) {
                    vecs[c][v] = new Vec();
                    if (cf.kept.contains(v)) {
                        vecs[c][v].kind = Kind.KEPT;
                    }
                }
            }
            started = new boolean[devs];
            promised = new boolean[devs];
            delivered = new int[devs];
            merged = new int[devs];
            dropped = new int[devs];
            handled = new int[cf.cpus];
            lines = new Ln[devs][];
            for (int d = 0; d < devs; d++) {
                lines[d] = new Ln[cf.devs.get(d).n];
                for (int l = 0; l < lines[d].length; l++) {
                    lines[d][l] = new Ln();
                }
            }
        }

        World copy() {
            World w = new World(cf);
            w.online = online.clone();
            w.started = started.clone();
            w.promised = promised.clone();
            w.delivered = delivered.clone();
            w.merged = merged.clone();
            w.dropped = dropped.clone();
            w.handled = handled.clone();
            w.ticks = ticks;
            w.log = new ArrayList<>(log);
            for (int c = 0; c < cf.cpus; c++) {
                for (int v = 0; v < cf.vectors; v++) {
                    w.vecs[c][v] = vecs[c][v].copy();
                }
            }
            for (int d = 0; d < lines.length; d++) {
                for (int l = 0; l < lines[d].length; l++) {
                    w.lines[d][l] = lines[d][l].copy();
                }
            }
            return w;
        }

        int count(int c, Kind k) {
            int sum = 0;
            for (Vec v : vecs[c]) {
                sum += v.kind == k ? 1 : 0;
            }
            return sum;
        }

        int load(int c) {
            return count(c, Kind.HELD) + count(c, Kind.OLD);
        }

        int free() {
            int sum = 0;
            for (int c = 0; c < cf.cpus; c++) {
                sum += online[c] ? count(c, Kind.FREE) : 0;
            }
            return sum;
        }

        int promisedVectors() {
            int sum = 0;
            for (int d = 0; d < promised.length; d++) {
                sum += promised[d] ? cf.devs.get(d).n : 0;
            }
            return sum;
        }

        int block(int c, int n) {
            for (int v = 0; v + n <= cf.vectors; v += n) {
                boolean all = true;
                for (int i = v; i < v + n; i++) {
                    all &= vecs[c][i].kind == Kind.FREE;
                }
                if (all) {
                    return v;
                }
            }
            return NONE;
        }

        int least(List<Integer> cpus) {
            int best = NONE;
            for (int c = 0; c < cf.cpus; c++) {
                if (cpus.contains(c) && online[c] && (best == NONE || load(c) < load(best))) {
                    best = c;
                }
            }
            return best;
        }

        int dealtCpu(List<Integer> cpus, int n) {
            List<Integer> roomy = new ArrayList<>();
            for (int c : cpus) {
                if (block(c, n) != NONE) {
                    roomy.add(c);
                }
            }
            return least(roomy);
        }

        List<Integer> queueCpus(int d, int q) {
            Dev dev = cf.devs.get(d);
            List<Integer> set = new ArrayList<>(dev.set);
            java.util.Collections.sort(set);
            List<Integer> its = new ArrayList<>();
            int m = set.size();
            if (m < dev.n) {
                its.add(set.get(q % m));
                return its;
            }
            for (int i = 0; i < m; i++) {
                if (i * dev.n / m == q) {
                    its.add(set.get(i));
                }
            }
            return its;
        }

        void hold(int d, int l, int c, int v) {
            vecs[c][v].be(Kind.HELD, d, l);
            lines[d][l].cpu = c;
            lines[d][l].vec = v;
        }

        void leaveVector(int d, int l, int c, int v) {
            if (cf.devs.get(d).kind == 3) {
                vecs[c][v].be(Kind.RESERVED, d, l);
            } else {
                vecs[c][v].be(Kind.FREE, NONE, NONE);
            }
        }

        int reserved(int d, int q, int c) {
            for (int v = 0; v < cf.vectors; v++) {
                if (vecs[c][v].kind == Kind.RESERVED && vecs[c][v].dev == d && vecs[c][v].line == q) {
                    return v;
                }
            }
            throw new IllegalStateException("nothing reserved");
        }

        int start(int d) {
            if (started[d]) {
                return 4;
            }
            Dev dev = cf.devs.get(d);
            if (dev.kind != 3) {
                int c = dealtCpu(dev.set, dev.n);
                if (c == NONE) {
                    return 1;
                }
                int v = block(c, dev.n);
                for (int l = 0; l < dev.n; l++) {
                    hold(d, l, c, v + l);
                }
            } else {
                for (int q = 0; q < dev.n; q++) {
                    for (int c : queueCpus(d, q)) {
                        int v = block(c, 1);
                        if (v == NONE) {
                            return 1;
                        }
                        vecs[c][v].be(Kind.RESERVED, d, q);
                    }
                }
                for (int q = 0; q < dev.n; q++) {
                    int c = least(queueCpus(d, q));
                    if (c != NONE) {
                        hold(d, q, c, reserved(d, q, c));
                    }
                }
            }
            started[d] = true;
            promised[d] = false;
            return free() < promisedVectors() ? 2 : 0;
        }

        int claim(int d) {
            if (started[d] || promised[d] || cf.devs.get(d).kind == 3) {
                return 4;
            }
            promised[d] = true;
            return free() < promisedVectors() ? 2 : 0;
        }

        int stop(int d) {
            if (!started[d]) {
                return NONE;
            }
            int lost = 0;
            for (Vec[] row : vecs) {
                for (Vec v : row) {
                    if (v.dev == d) {
                        lost += v.pending ? 1 : 0;
                        v.pending = false;
                        v.be(Kind.FREE, NONE, NONE);
                    }
                }
            }
            for (int l = 0; l < lines[d].length; l++) {
                lost += lines[d][l].waits ? 1 : 0;
                lines[d][l] = new Ln();
            }
            started[d] = false;
            dropped[d] += lost;
            return lost;
        }

        int pend(int d, int c, int v) {
            if (vecs[c][v].pending) {
                merged[d]++;
                return 0;
            }
            vecs[c][v].pending = true;
            return 1;
        }

        int raise(int d, int l, boolean late) {
            if (!started[d] || l < 0 || l >= lines[d].length) {
                return NONE;
            }
            Ln line = lines[d][l];
            if (late && line.oldCpu != NONE) {
                return pend(d, line.oldCpu, line.oldVec);
            }
            if (line.cpu != NONE) {
                return pend(d, line.cpu, line.vec);
            }
            if (line.waits) {
                merged[d]++;
                return 0;
            }
            line.waits = true;
            return 1;
        }

        int tick() {
            ticks++;
            int n = 0;
            for (int c = 0; c < cf.cpus; c++) {
                for (int v = cf.vectors - 1; online[c] && v >= 0; v--) {
                    if (vecs[c][v].pending) {
                        Vec vec = vecs[c][v];
                        vec.pending = false;
                        boolean old = vec.kind == Kind.OLD;
                        if (!old && lines[vec.dev][vec.line].oldCpu != NONE) {
                            lines[vec.dev][vec.line].drains = true;
                        }
                        delivered[vec.dev]++;
                        handled[c]++;
                        log.add(0, new int[] {vec.dev, vec.line, c, v, old ? 1 : 0});
                        n++;
                        break;
                    }
                }
            }
            for (int d = 0; d < lines.length; d++) {
                for (int l = 0; l < lines[d].length; l++) {
                    Ln line = lines[d][l];
                    if (line.drains && !vecs[line.oldCpu][line.oldVec].pending) {
                        dropOld(d, l);
                    }
                }
            }
            return n;
        }

        void dropOld(int d, int l) {
            Ln line = lines[d][l];
            leaveVector(d, l, line.oldCpu, line.oldVec);
            line.oldCpu = NONE;
            line.oldVec = NONE;
            line.drains = false;
        }

        int move(int d, int l, List<Integer> cpus) {
            if (!started[d] || l < 0 || l >= lines[d].length || lines[d][l].cpu == NONE) {
                return 4;
            }
            Dev dev = cf.devs.get(d);
            for (int i = 0; i < dev.n; i++) {
                if ((i == l || dev.kind == 2) && lines[d][i].oldCpu != NONE) {
                    return 3;
                }
            }
            List<Integer> to = new ArrayList<>(cpus);
            to.remove(Integer.valueOf(lines[d][l].cpu));
            if (dev.kind == 3) {
                to.retainAll(queueCpus(d, l));
                int c = least(to);
                if (c == NONE) {
                    return 1;
                }
                become(d, l, c, reserved(d, l, c));
                return 0;
            }
            int c = dealtCpu(to, dev.n);
            if (c == NONE) {
                return 1;
            }
            int v = block(c, dev.n);
            for (int i = 0; i < dev.n; i++) {
                become(d, i, c, v + i);
            }
            return 0;
        }

        void become(int d, int l, int c, int v) {
            Ln line = lines[d][l];
            vecs[line.cpu][line.vec].kind = Kind.OLD;
            line.oldCpu = line.cpu;
            line.oldVec = line.vec;
            hold(d, l, c, v);
        }

        int onlineCount() {
            int sum = 0;
            for (boolean o : online) {
                sum += o ? 1 : 0;
            }
            return sum;
        }

        List<Integer> all() {
            List<Integer> cpus = new ArrayList<>();
            for (int c = 0; c < cf.cpus; c++) {
                cpus.add(c);
            }
            return cpus;
        }

        int unplug(int cpu) {
            if (!online[cpu]) {
                return 4;
            }
            if (onlineCount() == 1) {
                return 5;
            }
            online[cpu] = false;
            for (int d = 0; d < lines.length; d++) {
                if (!started[d]) {
                    continue;
                }
                Dev dev = cf.devs.get(d);
                if (dev.kind == 3) {
                    for (int q = 0; q < dev.n; q++) {
                        oldAway(d, q, cpu);
                        queueAway(d, q, cpu);
                    }
                    continue;
                }
                for (int l = 0; l < dev.n; l++) {
                    oldAway(d, l, cpu);
                }
                if (lines[d][0].cpu == cpu) {
                    int c = dealtCpu(dev.set, dev.n);
                    if (c == NONE) {
                        c = dealtCpu(all(), dev.n);
                    }
                    if (c == NONE) {
                        return 1;
                    }
                    int v = block(c, dev.n);
                    for (int l = 0; l < dev.n; l++) {
                        Vec was = vecs[cpu][lines[d][l].vec];
                        boolean pending = was.pending;
                        was.pending = false;
                        was.be(Kind.FREE, NONE, NONE);
                        hold(d, l, c, v + l);
                        vecs[c][v + l].pending = pending;
                    }
                }
            }
            return free() < promisedVectors() ? 2 : 0;
        }

        void oldAway(int d, int l, int cpu) {
            Ln line = lines[d][l];
            if (line.oldCpu == cpu) {
                Vec was = vecs[cpu][line.oldVec];
                boolean pending = was.pending;
                was.pending = false;
                dropOld(d, l);
                if (pending) {
                    pend(d, line.cpu, line.vec);
                }
            }
        }

        void queueAway(int d, int q, int cpu) {
            Ln line = lines[d][q];
            if (line.cpu != cpu) {
                return;
            }
            Vec was = vecs[cpu][line.vec];
            boolean pending = was.pending;
            was.pending = false;
            was.kind = Kind.RESERVED;
            line.cpu = NONE;
            line.vec = NONE;
            int c = least(queueCpus(d, q));
            if (c == NONE) {
                line.waits = pending;
                return;
            }
            int v;
            if (c == line.oldCpu) {
                v = line.oldVec;
                line.oldCpu = NONE;
                line.oldVec = NONE;
                line.drains = false;
            } else {
                v = reserved(d, q, c);
            }
            hold(d, q, c, v);
            if (pending) {
                pend(d, c, v);
            }
        }

        int plug(int cpu) {
            if (online[cpu]) {
                return 4;
            }
            online[cpu] = true;
            for (int d = 0; d < lines.length; d++) {
                for (int q = 0; started[d] && cf.devs.get(d).kind == 3 && q < lines[d].length; q++) {
                    Ln line = lines[d][q];
                    if (line.cpu == NONE && queueCpus(d, q).contains(cpu)) {
                        hold(d, q, cpu, reserved(d, q, cpu));
                        vecs[cpu][line.vec].pending = line.waits;
                        line.waits = false;
                    }
                }
            }
            return 0;
        }

        int unheard() {
            int sum = 0;
            for (Vec[] row : vecs) {
                for (Vec v : row) {
                    sum += v.pending ? 1 : 0;
                }
            }
            for (Ln[] ls : lines) {
                for (Ln l : ls) {
                    sum += l.waits ? 1 : 0;
                }
            }
            return sum;
        }
    }

    byte[] tape = new byte[0];
    Config cf = new Config();
    World w = new World(cf);
    List<World> undo = new ArrayList<>();
    List<World> redo = new ArrayList<>();
    World[] boxes = new World[2];
    int fault;
    int place = NONE;
    int refused;

    // ---- texts

    private static final class Stop extends Exception {
        private static final long serialVersionUID = 1L;
        final int fault;
        final int place;

        Stop(int fault, int place) {
            this.fault = fault;
            this.place = place;
        }
    }

    private static final Pattern WORD = Pattern.compile("[a-z]+");
    private static final Pattern NUMBER = Pattern.compile("[0-9]+");

    private String text;
    private int at;
    private String token;
    private int tokenAt;

    /** The next TOKEN; the empty text at the end. */
    private void read() throws Stop {
        while (at < text.length() && (text.charAt(at) == ' ' || text.charAt(at) == '\n')) {
            at++;
        }
        tokenAt = at;
        if (at == text.length()) {
            token = "";
            return;
        }
        Matcher word = WORD.matcher(text).region(at, text.length());
        Matcher number = NUMBER.matcher(text).region(at, text.length());
        if (word.lookingAt()) {
            token = word.group();
            if (token.length() > 8) {
                throw new Stop(1, at);
            }
        } else if (number.lookingAt()) {
            token = number.group();
            boolean letter = number.end() < text.length() && Character.toString(text.charAt(number.end())).matches("[a-z]");
            if (token.length() > 3 || letter) {
                throw new Stop(1, at);
            }
        } else if (text.charAt(at) == ';') {
            token = ";";
        } else {
            throw new Stop(1, at);
        }
        at += token.length();
    }

    private void want(boolean good, int what) throws Stop {
        if (!good) {
            throw new Stop(what, tokenAt);
        }
    }

    private boolean isNumber() {
        return token.matches("[0-9]+");
    }

    private int number(int least, int most) throws Stop {
        want(isNumber(), 2);
        int n = Integer.parseInt(token);
        want(n >= least && n <= most, 4);
        read();
        return n;
    }

    private void sign() throws Stop {
        want(token.equals(";"), 2);
        read();
    }

    private void numbers(List<Integer> told, int limit) throws Stop {
        do {
            want(isNumber(), 2);
            int n = Integer.parseInt(token);
            want(!told.contains(n), 3);
            want(n < limit, 4);
            told.add(n);
            read();
        } while (isNumber());
    }

    private String name() throws Stop {
        want(token.matches("[a-z]{1,7}") && !KEYWORDS.contains(" " + token + " "), 2);
        return token;
    }

    private static int indexOf(Config c, String name) {
        for (int d = 0; d < c.devs.size(); d++) {
            if (c.devs.get(d).name.equals(name)) {
                return d;
            }
        }
        return NONE;
    }

    private void open() {
        text = new String(tape, java.nio.charset.StandardCharsets.ISO_8859_1);
        tape = new byte[0];
        at = 0;
        fault = 0;
        place = NONE;
    }

    private int faulty(Stop s) {
        fault = s.fault;
        place = s.place;
        return NONE;
    }

    int board() {
        open();
        Config c = new Config();
        try {
            boolean cpus = false;
            boolean vectors = false;
            boolean other = false;
            for (read(); !token.isEmpty(); sign()) {
                String word = token;
                if (word.equals("cpus")) {
                    want(!other, 2);
                    want(!cpus, 3);
                    cpus = true;
                    read();
                    c.cpus = number(1, 8);
                } else if (word.equals("vectors")) {
                    want(!other, 2);
                    want(!vectors, 3);
                    vectors = true;
                    read();
                    c.vectors = number(8, 32);
                } else if (word.equals("kept")) {
                    other = true;
                    read();
                    numbers(c.kept, c.vectors);
                } else if (word.equals("off")) {
                    other = true;
                    read();
                    numbers(c.off, c.cpus);
                } else {
                    want(word.equals("device") && c.devs.size() < 10, 2);
                    other = true;
                    read();
                    readDevice(c);
                }
            }
        } catch (Stop s) {
            return faulty(s);
        }
        refused = 0;
        cf = c;
        w = new World(cf);
        undo.clear();
        redo.clear();
        boxes = new World[2];
        return cf.devs.size();
    }

    private void readDevice(Config c) throws Stop {
        Dev dev = new Dev();
        dev.name = name();
        want(indexOf(c, dev.name) == NONE, 3);
        read();
        want(token.equals("single") || token.equals("group") || token.equals("managed"), 2);
        String wants = token;
        read();
        dev.kind = wants.equals("single") ? 1 : wants.equals("group") ? 2 : 3;
        dev.n = 1;
        if (dev.kind == 2) {
            want(isNumber(), 2);
            int n = Integer.parseInt(token);
            want(n == 2 || n == 4 || n == 8, 4);
            dev.n = n;
            read();
        } else if (dev.kind == 3) {
            dev.n = number(1, 8);
        }
        if (token.equals("on")) {
            read();
            numbers(dev.set, c.cpus);
        } else {
            for (int i = 0; i < c.cpus; i++) {
                dev.set.add(i);
            }
        }
        c.devs.add(dev);
    }

    int orders() {
        open();
        refused = 0;
        List<Object[]> list = new ArrayList<>();
        try {
            for (read(); !token.isEmpty(); sign()) {
                list.add(readOrder());
            }
        } catch (Stop s) {
            return faulty(s);
        }
        World before = w;
        int done = 0;
        for (Object[] order : list) {
            World next = w.copy();
            refused = perform(next, order);
            if (refused != 0) {
                break;
            }
            w = next;
            done++;
        }
        if (done > 0) {
            keep(before);
        }
        return done;
    }

    private Object[] readOrder() throws Stop {
        String word = token;
        int d = NONE;
        int n = NONE;
        List<Integer> cpus = new ArrayList<>();
        want(" start stop claim raise late move tick plug unplug ".contains(" " + word + " ") && !word.equals(";"), 2);
        read();
        if (word.equals("tick")) {
            n = number(1, 100);
        } else if (word.equals("plug") || word.equals("unplug")) {
            n = number(0, cf.cpus - 1);
        } else {
            d = indexOf(cf, name());
            want(d != NONE, 3);
            read();
            if (word.equals("raise") || word.equals("late") || word.equals("move")) {
                n = number(0, 7);
            }
            if (word.equals("move")) {
                want(token.equals("to"), 2);
                read();
                numbers(cpus, cf.cpus);
            }
        }
        return new Object[] {word, d, n, cpus};
    }

    @SuppressWarnings("unchecked")
    private static int perform(World next, Object[] order) {
        int d = (Integer) order[1];
        int n = (Integer) order[2];
        switch ((String) order[0]) {
            case "start":
                return next.start(d);
            case "stop":
                return next.stop(d) == NONE ? 4 : 0;
            case "claim":
                return next.claim(d);
            case "raise":
                return next.raise(d, n, false) == NONE ? 4 : 0;
            case "late":
                return next.raise(d, n, true) == NONE ? 4 : 0;
            case "move":
                return next.move(d, n, (List<Integer>) order[3]);
            case "tick":
                for (int i = 0; i < n; i++) {
                    next.tick();
                }
                return 0;
            case "plug":
                return next.plug(n);
            default:
                return next.unplug(n);
        }
    }

    // ---- acts

    private void keep(World before) {
        undo.add(before);
        redo.clear();
        if (undo.size() > 16) {
            undo.remove(0);
        }
    }

    private int settle(World next, int answer, boolean done) {
        if (done) {
            keep(w);
            w = next;
        }
        return answer;
    }

    boolean isDev(int d) {
        return d >= 0 && d < cf.devs.size();
    }

    boolean isCpu(int c) {
        return c >= 0 && c < cf.cpus;
    }

    boolean isLine(int d, int l) {
        return isDev(d) && l >= 0 && l < cf.devs.get(d).n;
    }

    int start(int d) {
        if (!isDev(d)) {
            return NONE;
        }
        World next = w.copy();
        int answer = next.start(d);
        return settle(next, answer, answer == 0);
    }

    int stop(int d) {
        if (!isDev(d)) {
            return NONE;
        }
        World next = w.copy();
        int answer = next.stop(d);
        return settle(next, answer, answer != NONE);
    }

    int claim(int d) {
        if (!isDev(d)) {
            return NONE;
        }
        World next = w.copy();
        int answer = next.claim(d);
        return settle(next, answer, answer == 0);
    }

    int raise(int d, int l, boolean late) {
        if (!isLine(d, l)) {
            return NONE;
        }
        World next = w.copy();
        int answer = next.raise(d, l, late);
        return settle(next, answer, answer != NONE);
    }

    int tick(int n) {
        if (n < 1 || n > 100) {
            return NONE;
        }
        World next = w.copy();
        int sum = 0;
        for (int i = 0; i < n; i++) {
            sum += next.tick();
        }
        return settle(next, sum, true);
    }

    int move(int d, int l, int bits) {
        if (!isDev(d) || bits < 0) {
            return NONE;
        }
        List<Integer> cpus = w.all();
        cpus.removeIf(c -> (bits >> c & 1) == 0);
        World next = w.copy();
        int answer = next.move(d, l, cpus);
        return settle(next, answer, answer == 0);
    }

    int unplug(int c) {
        if (!isCpu(c)) {
            return NONE;
        }
        World next = w.copy();
        int answer = next.unplug(c);
        return settle(next, answer, answer == 0);
    }

    int plug(int c) {
        if (!isCpu(c)) {
            return NONE;
        }
        World next = w.copy();
        int answer = next.plug(c);
        return settle(next, answer, answer == 0);
    }

    boolean undo() {
        if (undo.isEmpty()) {
            return false;
        }
        redo.add(w);
        w = undo.remove(undo.size() - 1);
        return true;
    }

    boolean redo() {
        if (redo.isEmpty()) {
            return false;
        }
        undo.add(w);
        w = redo.remove(redo.size() - 1);
        return true;
    }

    // ---- what is asked

    int feed(int[] five) {
        if (tape.length + 20 > 800) {
            return NONE;
        }
        int n = tape.length;
        tape = Arrays.copyOf(tape, n + 20);
        java.nio.ByteBuffer buffer = java.nio.ByteBuffer.wrap(tape, n, 20);
        for (int four : five) {
            buffer.putInt(four);
        }
        return tape.length;
    }

    int end(int n) {
        if (n < 0 || n > tape.length) {
            return NONE;
        }
        tape = Arrays.copyOf(tape, n);
        return n;
    }

    int cpu(int c, int what) {
        if (!isCpu(c)) {
            return NONE;
        }
        switch (what) {
            case 0:
                return w.load(c);
            case 1:
                return w.count(c, Kind.FREE);
            case 2:
                return w.count(c, Kind.RESERVED);
            case 3:
                int pending = 0;
                for (Vec v : w.vecs[c]) {
                    pending += v.pending ? 1 : 0;
                }
                return pending;
            case 4:
                return w.online[c] ? 1 : 0;
            case 5:
                for (int n : new int[] {8, 4, 2, 1}) {
                    if (w.block(c, n) != NONE) {
                        return n;
                    }
                }
                return 0;
            case 6:
                return w.handled[c];
            default:
                return NONE;
        }
    }

    int vector(int c, int v, int what) {
        if (!isCpu(c) || v < 0 || v >= cf.vectors) {
            return NONE;
        }
        Vec vec = w.vecs[c][v];
        switch (what) {
            case 0:
                return vec.kind.ordinal();
            case 1:
                return vec.dev;
            case 2:
                return vec.line;
            case 3:
                return vec.pending ? 1 : 0;
            default:
                return NONE;
        }
    }

    static int bits(List<Integer> set) {
        int bits = 0;
        for (int c : set) {
            bits |= 1 << c;
        }
        return bits;
    }

    int device(int d, int what) {
        if (!isDev(d)) {
            return NONE;
        }
        Dev dev = cf.devs.get(d);
        int[] answers = {dev.kind, dev.n, bits(dev.set), w.started[d] ? 1 : 0, w.promised[d] ? 1 : 0,
            w.delivered[d], w.merged[d], w.dropped[d]};
        return what < 0 || what > 7 ? NONE : answers[what];
    }

    int line(int d, int l, int what) {
        if (!isLine(d, l) || !w.started[d]) {
            return NONE;
        }
        Ln line = w.lines[d][l];
        int[] answers = {line.cpu, line.vec, line.oldCpu, line.oldVec, line.drains ? 1 : 0, line.waits ? 1 : 0};
        return what < 0 || what > 5 ? NONE : answers[what];
    }

    int spread(int d, int q) {
        return isLine(d, q) && cf.devs.get(d).kind == 3 ? bits(w.queueCpus(d, q)) : 0;
    }

    /** By starting them, one behind another, on a copy. */
    int room(int n) {
        if (n != 1 && n != 2 && n != 4 && n != 8) {
            return NONE;
        }
        World next = w.copy();
        for (int count = 0;; count++) {
            int c = next.dealtCpu(next.all(), n);
            if (c == NONE) {
                return count;
            }
            int v = next.block(c, n);
            for (int i = v; i < v + n; i++) {
                next.vecs[c][i].kind = Kind.HELD;
            }
            if (next.free() < next.promisedVectors()) {
                return count;
            }
        }
    }

    int balance() {
        int most = Integer.MIN_VALUE;
        int least = Integer.MAX_VALUE;
        for (int c = 0; c < cf.cpus; c++) {
            if (w.online[c]) {
                most = Math.max(most, w.load(c));
                least = Math.min(least, w.load(c));
            }
        }
        return w.onlineCount() == 0 ? 0 : most - least;
    }

    int clear(int n, int what) {
        if (n != 2 && n != 4 && n != 8 || what < 0 || what > 2) {
            return NONE;
        }
        int[] best = null;
        for (int c = 0; c < cf.cpus; c++) {
            for (int v = 0; w.online[c] && v + n <= cf.vectors; v += n) {
                int cost = 0;
                boolean good = true;
                for (int i = v; i < v + n; i++) {
                    Vec vec = w.vecs[c][i];
                    boolean mayGo = vec.kind == Kind.HELD && cf.devs.get(vec.dev).kind == 1
                            && w.lines[vec.dev][vec.line].oldCpu == NONE;
                    cost += mayGo ? 1 : 0;
                    good &= mayGo || vec.kind == Kind.FREE;
                }
                if (good && (best == null || cost < best[0])) {
                    best = new int[] {cost, c, v};
                }
            }
        }
        return best == null ? NONE : best[what];
    }

    int without(int c, int what) {
        if (!isCpu(c) || what < 0 || what > 1) {
            return NONE;
        }
        World next = w.copy();
        int by = next.unplug(c);
        if (what == 0 || by != 0) {
            return what == 0 ? by : 0;
        }
        int others = 0;
        for (int d = 0; d < w.lines.length; d++) {
            for (int l = 0; l < w.lines[d].length; l++) {
                others += w.lines[d][l].cpu != next.lines[d][l].cpu ? 1 : 0;
            }
        }
        return others;
    }

    int storm(int seed, int n, int what) {
        if (seed < 0 || seed > 9999 || n < 0 || n > 500 || what < 0 || what > 3) {
            return NONE;
        }
        World next = w.copy();
        List<int[]> all = new ArrayList<>();
        for (int d = 0; d < w.lines.length; d++) {
            for (int l = 0; w.started[d] && l < w.lines[d].length; l++) {
                all.add(new int[] {d, l});
            }
        }
        int[] answers = new int[4];
        for (int i = 0; i < n; i++) {
            seed = (137 * seed + 71) % 10007;
            if (seed % 4 == 0) {
                answers[0] += next.tick();
            } else {
                seed = (137 * seed + 71) % 10007;
                if (!all.isEmpty()) {
                    int[] one = all.get(seed % all.size());
                    answers[1] += 1 - next.raise(one[0], one[1], false);
                }
            }
            answers[2] = Math.max(answers[2], next.unheard());
        }
        answers[3] = next.unheard();
        return answers[what];
    }

    int quiet() {
        World next = w.copy();
        for (int n = 0;; n++) {
            boolean pending = false;
            for (int c = 0; c < cf.cpus; c++) {
                for (Vec v : next.vecs[c]) {
                    pending |= next.online[c] && v.pending;
                }
            }
            if (!pending) {
                return n;
            }
            next.tick();
        }
    }

    int nearest() {
        int best = NONE;
        for (int d = 0; d < cf.devs.size(); d++) {
            Dev dev = cf.devs.get(d);
            if (dev.kind == 2 && !w.started[d] && clear(dev.n, 0) != NONE
                    && (best == NONE || clear(dev.n, 0) < clear(cf.devs.get(best).n, 0))) {
                best = d;
            }
        }
        return best;
    }

    int kept() {
        return Math.min(40, w.log.size());
    }

    int log(int k, int what) {
        return k < 0 || k >= kept() || what < 0 || what > 4 ? NONE : w.log.get(k)[what];
    }

    int alike(int d, int letters) {
        if (!isDev(d) || letters < 1 || letters > 7) {
            return NONE;
        }
        String name = cf.devs.get(d).name;
        String begin = name.substring(0, Math.min(letters, name.length()));
        int sum = 0;
        for (int k = 0; k < kept(); k++) {
            sum += cf.devs.get(w.log.get(k)[0]).name.startsWith(begin) ? 1 : 0;
        }
        return sum;
    }

    int held() {
        int sum = 0;
        for (int c = 0; c < cf.cpus; c++) {
            sum += w.count(c, Kind.HELD);
        }
        return sum;
    }

    int image(int box) {
        if (box != 0 && box != 1) {
            return NONE;
        }
        boxes[box] = w.copy();
        return held();
    }

    int back(int box) {
        if (box != 0 && box != 1 || boxes[box] == null) {
            return NONE;
        }
        w = boxes[box].copy();
        undo.clear();
        redo.clear();
        return held();
    }

    int about(int what) {
        boolean[] on = w.online;
        int online = 0;
        for (int c = 0; c < cf.cpus; c++) {
            online |= on[c] ? 1 << c : 0;
        }
        int[] answers = {cf.cpus, cf.vectors, cf.devs.size(), online, w.free(), w.promisedVectors(), w.ticks,
            Arrays.stream(w.delivered).sum(), Arrays.stream(w.merged).sum(), Arrays.stream(w.dropped).sum(),
            undo.size(), redo.size(), tape.length, w.unheard()};
        return what < 0 || what > 13 ? NONE : answers[what];
    }
}
