import java.util.Arrays;

/**
 * Interrupts dealt to processors. The document's promises are told by its words: a TAPE becomes a
 * BOARD or ORDERS; DEVICES are STARTED, STOPPED, PROMISED, RAISED, MOVED; CPUS leave and come.
 *
 * <p>All rows are made by the constructor and used again, so that no call makes an object.
 */
public final class VectorDeal {
    public static final int NONE = -1;

    private static final int TAPE_LIMIT = 800;
    private static final int CPU_LIMIT = 8;
    private static final int VECTOR_LIMIT = 32;
    private static final int DEVICE_LIMIT = 10;
    private static final int LINE_LIMIT = 8;
    private static final int ID_LIMIT = DEVICE_LIMIT * LINE_LIMIT;
    private static final int PLACE_LIMIT = CPU_LIMIT * VECTOR_LIMIT;
    /** The shortest order has six bytes, so a TAPE holds fewer than this. */
    private static final int ORDER_LIMIT = 160;
    private static final int ACT_LIMIT = 16;
    private static final int LOG_LIMIT = 40;
    private static final int BOX_LIMIT = 2;
    private static final int TICK_LIMIT = 100;
    private static final int STORM_LIMIT = 500;
    private static final int SEED_LIMIT = 9_999;
    private static final int WORD_LETTERS = 8;
    private static final int NAME_LETTERS = 7;
    private static final int LETTER_BITS = 5;
    private static final int DIGITS = 3;

    private static final int FREE = 0;
    private static final int KEPT = 1;
    private static final int HELD = 2;
    private static final int OLD = 3;
    private static final int RESERVED = 4;
    private static final int VECTOR_KINDS = 5;

    private static final int SINGLE = 1;
    private static final int GROUP = 2;
    private static final int MANAGED = 3;

    private static final int DONE = 0;
    private static final int NO_ROOM = 1;
    private static final int PROMISE_BROKEN = 2;
    private static final int OLD_IS_THERE = 3;
    private static final int CANNOT_BE = 4;
    private static final int ONLY_ONE = 5;

    private static final int NO_TOKEN = 1;
    private static final int OUT_OF_PLACE = 2;
    private static final int TOLD_OR_UNKNOWN = 3;
    private static final int WRONG_NUMBER = 4;

    private static final int TOKEN_END = 0;
    private static final int TOKEN_WORD = 1;
    private static final int TOKEN_NUMBER = 2;
    private static final int TOKEN_SIGN = 3;
    private static final int TOKEN_BAD = 4;

    /** The words that stand for themselves, in the order of the numbers below, a blank behind each. */
    private static final String WORDS =
            "cpus vectors kept off device single group managed on start stop claim raise late move to tick plug unplug ";
    private static final int WORD_CPUS = 0;
    private static final int WORD_VECTORS = 1;
    private static final int WORD_KEPT = 2;
    private static final int WORD_OFF = 3;
    private static final int WORD_DEVICE = 4;
    private static final int WORD_SINGLE = 5;
    private static final int WORD_GROUP = 6;
    private static final int WORD_MANAGED = 7;
    private static final int WORD_ON = 8;
    private static final int WORD_START = 9;
    private static final int WORD_STOP = 10;
    private static final int WORD_CLAIM = 11;
    private static final int WORD_RAISE = 12;
    private static final int WORD_LATE = 13;
    private static final int WORD_MOVE = 14;
    private static final int WORD_TO = 15;
    private static final int WORD_TICK = 16;
    private static final int WORD_PLUG = 17;
    private static final int WORD_UNPLUG = 18;
    private static final int WORD_COUNT = 19;

    private final byte[] tape = new byte[TAPE_LIMIT];
    private int tapeLength;
    private final Tokens tokens;
    private final Board board;
    private final BoardText boardText;
    private final OrdersText ordersText;
    private final History history;
    /** Where things are tried that may not happen at all. */
    private final State trial;
    private final State[] boxes = new State[BOX_LIMIT];
    private final boolean[] boxFull = new boolean[BOX_LIMIT];
    private final Survey survey;
    private final Storm weather;
    private int refusal;

    public VectorDeal() {
        board = new Board();
        tokens = new Tokens(tape);
        boardText = new BoardText(tokens);
        ordersText = new OrdersText(tokens, board);
        history = new History(board);
        trial = new State(board);
        for (int box = 0; box < BOX_LIMIT; box++) {
            boxes[box] = new State(board);
        }
        survey = new Survey(board);
        weather = new Storm(board);
    }

    public int feed(int a, int b, int c, int d, int e) {
        if (tapeLength > TAPE_LIMIT - 20) {
            return NONE;
        }
        appendBytes(a);
        appendBytes(b);
        appendBytes(c);
        appendBytes(d);
        appendBytes(e);
        return tapeLength;
    }

    private void appendBytes(int four) {
        for (int shift = 24; shift >= 0 && tapeLength < TAPE_LIMIT; shift -= 8) {
            tape[tapeLength] = (byte) (four >>> shift);
            tapeLength++;
        }
    }

    public int end(int n) {
        if (n < 0 || n > tapeLength) {
            return NONE;
        }
        tapeLength = n;
        return n;
    }

    public int board() {
        tokens.open(tapeLength);
        tapeLength = 0;
        if (!boardText.read()) {
            return NONE;
        }
        refusal = DONE;
        board.copyFrom(boardText.draft);
        history.now.empty();
        history.forget();
        for (int box = 0; box < BOX_LIMIT; box++) {
            boxFull[box] = false;
        }
        return board.devices;
    }

    public int orders() {
        tokens.open(tapeLength);
        tapeLength = 0;
        refusal = DONE;
        if (!ordersText.read()) {
            return NONE;
        }
        State draft = history.draft();
        int done = 0;
        for (int k = 0; k < ordersText.count && refusal == DONE; k++) {
            // Only a REFUSED UNPLUG leaves its state half done.
            boolean risky = ordersText.word[k] == WORD_UNPLUG;
            if (risky) {
                trial.copyFrom(draft);
            }
            refusal = perform(draft, k);
            if (refusal == DONE) {
                done++;
            } else if (risky) {
                draft.copyFrom(trial);
            }
        }
        if (done > 0) {
            history.keep();
        }
        return done;
    }

    private int perform(State draft, int k) {
        int device = ordersText.device[k];
        int number = ordersText.number[k];
        switch (ordersText.word[k]) {
            case WORD_START:
                return draft.begin(device);
            case WORD_STOP:
                return draft.halt(device) == NONE ? CANNOT_BE : DONE;
            case WORD_CLAIM:
                return draft.promise(device);
            case WORD_RAISE:
                return draft.signal(device, number, false) == NONE ? CANNOT_BE : DONE;
            case WORD_LATE:
                return draft.signal(device, number, true) == NONE ? CANNOT_BE : DONE;
            case WORD_MOVE:
                return draft.shift(device, number, ordersText.cpus[k]);
            case WORD_TICK:
                draft.pass(number);
                return DONE;
            case WORD_PLUG:
                return draft.comeBack(number);
            default:
                return draft.leave(number);
        }
    }

    public int fault(int what) {
        switch (what) {
            case 0:
                return tokens.fault;
            case 1:
                return tokens.faultPlace;
            default:
                return NONE;
        }
    }

    public int refused() {
        return refusal;
    }

    public int start(int device) {
        if (!board.hasDevice(device)) {
            return NONE;
        }
        return keepIfDone(history.draft().begin(device));
    }

    /** A REFUSED one leaves things as they are; one that was not is an ACT. */
    private int keepIfDone(int refused) {
        if (refused == DONE) {
            history.keep();
        }
        return refused;
    }

    public int stop(int device) {
        if (!board.hasDevice(device)) {
            return NONE;
        }
        return keepIfAny(history.draft().halt(device));
    }

    /** What answers NONE did nothing; anything else is an ACT. */
    private int keepIfAny(int answer) {
        if (answer != NONE) {
            history.keep();
        }
        return answer;
    }

    public int claim(int device) {
        if (!board.hasDevice(device)) {
            return NONE;
        }
        return keepIfDone(history.draft().promise(device));
    }

    public int raise(int device, int line, boolean late) {
        if (!board.hasLine(device, line)) {
            return NONE;
        }
        return keepIfAny(history.draft().signal(device, line, late));
    }

    public int tick(int n) {
        if (n < 1 || n > TICK_LIMIT) {
            return NONE;
        }
        return keepIfAny(history.draft().pass(n));
    }

    public int move(int device, int line, int cpus) {
        if (!board.hasDevice(device) || cpus < 0) {
            return NONE;
        }
        return keepIfDone(history.draft().shift(device, line, cpus));
    }

    public int unplug(int cpu) {
        if (!board.hasCpu(cpu)) {
            return NONE;
        }
        return keepIfDone(history.draft().leave(cpu));
    }

    public int plug(int cpu) {
        if (!board.hasCpu(cpu)) {
            return NONE;
        }
        return keepIfDone(history.draft().comeBack(cpu));
    }

    public boolean undo() {
        return history.takeBack();
    }

    public boolean redo() {
        return history.doAgain();
    }

    public int cpu(int cpu, int what) {
        if (!board.hasCpu(cpu)) {
            return NONE;
        }
        Rows rows = history.now.rows;
        switch (what) {
            case 0:
                return rows.loadOf(cpu);
            case 1:
                return rows.howMany(FREE, cpu);
            case 2:
                return rows.howMany(RESERVED, cpu);
            case 3:
                return Integer.bitCount(rows.pending[cpu]);
            case 4:
                return rows.isOnline(cpu) ? 1 : 0;
            case 5:
                return rows.greatestBlock(cpu);
            case 6:
                return history.now.tally.handled[cpu];
            default:
                return NONE;
        }
    }

    public int vector(int cpu, int vector, int what) {
        if (!board.hasCpu(cpu) || !board.hasVector(vector)) {
            return NONE;
        }
        Rows rows = history.now.rows;
        int place = cpu * VECTOR_LIMIT + vector;
        int owner = rows.owner[place];
        switch (what) {
            case 0:
                return rows.kindAt(place);
            case 1:
                return owner == NONE ? NONE : owner / LINE_LIMIT;
            case 2:
                return owner == NONE ? NONE : owner % LINE_LIMIT;
            case 3:
                return rows.isPending(place) ? 1 : 0;
            default:
                return NONE;
        }
    }

    public int device(int device, int what) {
        if (!board.hasDevice(device)) {
            return NONE;
        }
        Tally tally = history.now.tally;
        switch (what) {
            case 0:
                return board.kind[device];
            case 1:
                return board.lines[device];
            case 2:
                return board.set[device];
            case 3:
                return history.now.isStarted(device) ? 1 : 0;
            case 4:
                return history.now.isPromised(device) ? 1 : 0;
            case 5:
                return tally.delivered[device];
            case 6:
                return tally.merged[device];
            case 7:
                return tally.dropped[device];
            default:
                return NONE;
        }
    }

    public int line(int device, int line, int what) {
        State now = history.now;
        if (!board.hasLine(device, line) || !now.isStarted(device)) {
            return NONE;
        }
        int id = device * LINE_LIMIT + line;
        switch (what) {
            case 0:
                return cpuOf(now.heldAt[id]);
            case 1:
                return vectorOf(now.heldAt[id]);
            case 2:
                return cpuOf(now.oldAt[id]);
            case 3:
                return vectorOf(now.oldAt[id]);
            case 4:
                return now.drains[id] ? 1 : 0;
            case 5:
                return now.waits[id] ? 1 : 0;
            default:
                return NONE;
        }
    }

    private static int cpuOf(int place) {
        return place == NONE ? NONE : place / VECTOR_LIMIT;
    }

    private static int vectorOf(int place) {
        return place == NONE ? NONE : place % VECTOR_LIMIT;
    }

    public int spread(int device, int queue) {
        return board.hasLine(device, queue) ? board.queueCpus(device, queue) : 0;
    }

    public int room(int n) {
        return n == 1 || isGroupSize(n) ? survey.roomFor(history.now, n) : NONE;
    }

    private static boolean isGroupSize(int n) {
        return n == 2 || n == 4 || n == 8;
    }

    public int balance() {
        return survey.loadGap(history.now.rows);
    }

    public int clear(int n, int what) {
        if (!isGroupSize(n)) {
            return NONE;
        }
        survey.seekBlock(history.now, n);
        switch (what) {
            case 0:
                return survey.fewest;
            case 1:
                return cpuOf(survey.block);
            case 2:
                return vectorOf(survey.block);
            default:
                return NONE;
        }
    }

    public int without(int cpu, int what) {
        if (!board.hasCpu(cpu) || what < 0 || what > 1) {
            return NONE;
        }
        trial.copyFrom(history.now);
        int refused = trial.leave(cpu);
        if (what == 0) {
            return refused;
        }
        return refused == DONE ? history.now.rows.howMany(HELD, cpu) : 0;
    }

    public int storm(int seed, int n, int what) {
        if (seed < 0 || seed > SEED_LIMIT || n < 0 || n > STORM_LIMIT || what < 0 || what > 3) {
            return NONE;
        }
        trial.copyFrom(history.now);
        weather.blow(trial, seed, n);
        switch (what) {
            case 0:
                return weather.delivered;
            case 1:
                return weather.merged;
            case 2:
                return weather.most;
            default:
                return trial.unheard();
        }
    }

    public int quiet() {
        return survey.ticksUntilQuiet(history.now.rows);
    }

    public int nearest() {
        return survey.nearestGroup(history.now);
    }

    public int log(int k, int what) {
        Tally tally = history.now.tally;
        if (k < 0 || k >= tally.kept()) {
            return NONE;
        }
        int id = tally.latestId(k);
        int place = tally.latestPlace(k);
        switch (what) {
            case 0:
                return id / LINE_LIMIT;
            case 1:
                return id % LINE_LIMIT;
            case 2:
                return cpuOf(place);
            case 3:
                return vectorOf(place);
            case 4:
                return tally.latestByOld(k);
            default:
                return NONE;
        }
    }

    public int alike(int device, int letters) {
        if (!board.hasDevice(device) || letters < 1 || letters > NAME_LETTERS) {
            return NONE;
        }
        Tally tally = history.now.tally;
        int count = 0;
        for (int k = 0; k < tally.kept(); k++) {
            if (board.beginsLike(tally.latestId(k) / LINE_LIMIT, device, letters)) {
                count++;
            }
        }
        return count;
    }

    public int law() {
        return survey.wrongVectors(history.now) + survey.wrongLines(history.now);
    }

    public int image(int box) {
        if (box < 0 || box >= BOX_LIMIT) {
            return NONE;
        }
        boxes[box].copyFrom(history.now);
        boxFull[box] = true;
        return survey.heldLines(history.now.rows);
    }

    public int back(int box) {
        if (box < 0 || box >= BOX_LIMIT || !boxFull[box]) {
            return NONE;
        }
        history.now.copyFrom(boxes[box]);
        history.forget();
        return survey.heldLines(history.now.rows);
    }

    public int about(int what) {
        State now = history.now;
        switch (what) {
            case 0:
                return board.cpus;
            case 1:
                return board.vectors;
            case 2:
                return board.devices;
            case 3:
                return now.rows.online;
            case 4:
                return now.rows.freeOnline();
            case 5:
                return now.promisedVectors();
            case 10:
                return history.done;
            case 11:
                return history.undone;
            case 12:
                return tapeLength;
            case 13:
                return now.unheard();
            default:
                return aboutCounts(now.tally, what);
        }
    }

    private static int aboutCounts(Tally tally, int what) {
        switch (what) {
            case 6:
                return tally.ticks;
            case 7:
                return Tally.sum(tally.delivered);
            case 8:
                return Tally.sum(tally.merged);
            case 9:
                return Tally.sum(tally.dropped);
            default:
                return NONE;
        }
    }

    /** The TOKENS of a text up to the first that is none, and the FAULT at which reading it ended. */
    private static final class Tokens {
        final byte[] bytes;
        private final long[] keywords = new long[WORD_COUNT];
        private final int[] kinds = new int[TAPE_LIMIT + 1];
        private final int[] places = new int[TAPE_LIMIT + 1];
        private final int[] sizes = new int[TAPE_LIMIT + 1];
        private final long[] values = new long[TAPE_LIMIT + 1];
        private int length;
        private int at;
        private int next;
        /** Of the TOKEN that is read now; keyword is NONE if it is no word that stands for itself. */
        int kind;
        int keyword;
        int letters;
        int number;
        long name;
        private int place;
        /** The numbers of the set that was read last. */
        int bits;
        int fault;
        int faultPlace = NONE;

        Tokens(byte[] bytes) {
            this.bytes = bytes;
            int word = 0;
            int letter = 0;
            for (int i = 0; i < WORDS.length() && word < WORD_COUNT; i++) {
                if (WORDS.charAt(i) == ' ') {
                    word++;
                    letter = 0;
                } else {
                    keywords[word] |= packed(WORDS.charAt(i), letter);
                    letter++;
                }
            }
        }

        /** Five bits a letter, the first one highest, so that beginnings can be compared by a shift. */
        private static long packed(int letter, int position) {
            boolean counts = position < NAME_LETTERS;
            return counts ? (long) (letter - 'a' + 1) << LETTER_BITS * (NAME_LETTERS - 1 - position) : 0;
        }

        /** Splits the first so many bytes, and reads the first TOKEN. */
        void open(int howMany) {
            length = Math.min(Math.max(howMany, 0), bytes.length);
            at = 0;
            fault = 0;
            faultPlace = NONE;
            int last = TOKEN_SIGN;
            for (int i = 0; i <= TAPE_LIMIT && last != TOKEN_END && last != TOKEN_BAD; i++) {
                last = split(i);
            }
            next = 0;
            advance();
        }

        private int split(int i) {
            while (at < length && isBlank(bytes[at])) {
                at++;
            }
            places[i] = at;
            if (at >= length) {
                kinds[i] = TOKEN_END;
            } else if (isLetter(bytes[at])) {
                splitWord(i);
            } else if (isDigit(bytes[at])) {
                splitNumber(i);
            } else {
                kinds[i] = bytes[at] == ';' ? TOKEN_SIGN : TOKEN_BAD;
                at++;
            }
            return kinds[i];
        }

        private void splitWord(int i) {
            int size = 0;
            long value = 0;
            while (at < length && isLetter(bytes[at])) {
                value |= packed(bytes[at], size);
                size++;
                at++;
            }
            kinds[i] = size <= WORD_LETTERS ? TOKEN_WORD : TOKEN_BAD;
            sizes[i] = size;
            values[i] = value;
        }

        private void splitNumber(int i) {
            int size = 0;
            int value = 0;
            while (at < length && isDigit(bytes[at])) {
                value = size < DIGITS ? value * 10 + bytes[at] - '0' : value;
                size++;
                at++;
            }
            boolean letterBehind = at < length && isLetter(bytes[at]);
            kinds[i] = size <= DIGITS && !letterBehind ? TOKEN_NUMBER : TOKEN_BAD;
            sizes[i] = size;
            values[i] = value;
        }

        /** The end, and what is no TOKEN, stay where they are: nothing was split behind them. */
        void advance() {
            kind = kinds[next];
            place = places[next];
            letters = kind == TOKEN_WORD ? sizes[next] : 0;
            name = kind == TOKEN_WORD ? values[next] : 0;
            number = kind == TOKEN_NUMBER ? (int) values[next] : 0;
            keyword = kind == TOKEN_WORD && letters <= NAME_LETTERS ? keywordOf(name) : NONE;
            if (kind != TOKEN_END && kind != TOKEN_BAD && next < TAPE_LIMIT) {
                next++;
            }
        }

        private int keywordOf(long wanted) {
            for (int word = 0; word < WORD_COUNT; word++) {
                if (keywords[word] == wanted) {
                    return word;
                }
            }
            return NONE;
        }

        boolean blame(int what) {
            fault = what;
            faultPlace = place;
            return false;
        }

        /** The FAULT of a TOKEN that can't stand where it does. */
        boolean blameToken() {
            fault = kind == TOKEN_BAD ? NO_TOKEN : OUT_OF_PLACE;
            faultPlace = place;
            return false;
        }

        boolean fitsName() {
            boolean fits = kind == TOKEN_WORD && keyword == NONE && letters <= NAME_LETTERS;
            return fits || blameToken();
        }

        boolean fitsNumber(int least, int most) {
            if (kind != TOKEN_NUMBER) {
                return blameToken();
            }
            return number >= least && number <= most || blame(WRONG_NUMBER);
        }

        boolean takeWord(int word) {
            if (keyword != word) {
                return blameToken();
            }
            advance();
            return true;
        }

        boolean takeSign() {
            if (kind != TOKEN_SIGN) {
                return blameToken();
            }
            advance();
            return true;
        }

        /** N {N}, each below a limit, none of them told before; bits has all of them then. */
        boolean takeSet(int told, int limit) {
            bits = told;
            if (kind != TOKEN_NUMBER) {
                return blameToken();
            }
            for (int i = 0; i < TAPE_LIMIT && kind == TOKEN_NUMBER; i++) {
                if (number >= limit) {
                    return blame(WRONG_NUMBER);
                }
                if ((bits >>> number & 1) == 1) {
                    return blame(TOLD_OR_UNKNOWN);
                }
                bits |= 1 << number;
                advance();
            }
            return true;
        }

        private static boolean isBlank(byte sign) {
            return sign == 32 || sign == 10;
        }

        private static boolean isLetter(byte sign) {
            return sign >= 'a' && sign <= 'z';
        }

        private static boolean isDigit(byte sign) {
            return sign >= '0' && sign <= '9';
        }
    }

    /** What a BOARD text tells; nothing of it changes by ACTS. */
    private static final class Board {
        int cpus;
        int vectors;
        int kept;
        int off;
        int devices;
        final long[] name = new long[DEVICE_LIMIT];
        final int[] letters = new int[DEVICE_LIMIT];
        final int[] kind = new int[DEVICE_LIMIT];
        final int[] lines = new int[DEVICE_LIMIT];
        final int[] set = new int[DEVICE_LIMIT];

        Board() {
            empty();
        }

        void empty() {
            cpus = 4;
            vectors = 16;
            kept = 0;
            off = 0;
            devices = 0;
        }

        void copyFrom(Board other) {
            cpus = other.cpus;
            vectors = other.vectors;
            kept = other.kept;
            off = other.off;
            devices = other.devices;
            System.arraycopy(other.name, 0, name, 0, DEVICE_LIMIT);
            System.arraycopy(other.letters, 0, letters, 0, DEVICE_LIMIT);
            System.arraycopy(other.kind, 0, kind, 0, DEVICE_LIMIT);
            System.arraycopy(other.lines, 0, lines, 0, DEVICE_LIMIT);
            System.arraycopy(other.set, 0, set, 0, DEVICE_LIMIT);
        }

        boolean hasCpu(int cpu) {
            return cpu >= 0 && cpu < cpus;
        }

        boolean hasVector(int vector) {
            return vector >= 0 && vector < vectors;
        }

        boolean hasDevice(int device) {
            return device >= 0 && device < devices;
        }

        boolean hasLine(int device, int line) {
            return hasDevice(device) && line >= 0 && line < lines[device];
        }

        int allCpus() {
            return (1 << cpus) - 1;
        }

        /** A shift by 32 would be one by 0. */
        int allVectors() {
            return vectors >= VECTOR_LIMIT ? -1 : (1 << vectors) - 1;
        }

        int deviceNamed(long wanted) {
            for (int d = 0; d < devices; d++) {
                if (name[d] == wanted) {
                    return d;
                }
            }
            return NONE;
        }

        boolean beginsLike(int device, int pattern, int howMany) {
            int compared = Math.min(howMany, letters[pattern]);
            int shift = LETTER_BITS * (NAME_LETTERS - compared);
            return name[device] >>> shift == name[pattern] >>> shift;
        }

        /** The SPREAD: the CPUS of a QUEUE, as bits. */
        int queueCpus(int device, int queue) {
            int m = Integer.bitCount(set[device]);
            if (kind[device] != MANAGED || m == 0) {
                return 0;
            }
            int queues = lines[device];
            int bits = 0;
            int i = 0;
            for (int c = 0; c < cpus; c++) {
                if ((set[device] >>> c & 1) == 1) {
                    int mine = m >= queues ? i * queues / m : i;
                    int wanted = m >= queues ? queue : queue % m;
                    bits |= mine == wanted ? 1 << c : 0;
                    i++;
                }
            }
            return bits;
        }
    }

    /** Reads a BOARD into a draft, so that at a FAULT all else stays. */
    private static final class BoardText {
        final Tokens tokens;
        final Board draft = new Board();
        private boolean cpusTold;
        private boolean vectorsTold;
        private boolean othersTold;

        BoardText(Tokens tokens) {
            this.tokens = tokens;
        }

        boolean read() {
            draft.empty();
            cpusTold = false;
            vectorsTold = false;
            othersTold = false;
            for (int i = 0; i < TAPE_LIMIT && tokens.kind != TOKEN_END; i++) {
                if (!readLine()) {
                    return false;
                }
            }
            return true;
        }

        private boolean readLine() {
            switch (tokens.keyword) {
                case WORD_CPUS:
                    return readCpus();
                case WORD_VECTORS:
                    return readVectors();
                case WORD_KEPT:
                    return readKept();
                case WORD_OFF:
                    return readOff();
                case WORD_DEVICE:
                    return readDevice();
                default:
                    return tokens.blameToken();
            }
        }

        private boolean readCpus() {
            if (!readSize(cpusTold, 1, CPU_LIMIT)) {
                return false;
            }
            cpusTold = true;
            draft.cpus = tokens.number;
            tokens.advance();
            return tokens.takeSign();
        }

        private boolean readVectors() {
            if (!readSize(vectorsTold, 8, VECTOR_LIMIT)) {
                return false;
            }
            vectorsTold = true;
            draft.vectors = tokens.number;
            tokens.advance();
            return tokens.takeSign();
        }

        private boolean readSize(boolean told, int least, int most) {
            if (othersTold) {
                return tokens.blame(OUT_OF_PLACE);
            }
            if (told) {
                return tokens.blame(TOLD_OR_UNKNOWN);
            }
            tokens.advance();
            return tokens.fitsNumber(least, most);
        }

        private boolean readKept() {
            othersTold = true;
            tokens.advance();
            if (!tokens.takeSet(draft.kept, draft.vectors)) {
                return false;
            }
            draft.kept = tokens.bits;
            return tokens.takeSign();
        }

        private boolean readOff() {
            othersTold = true;
            tokens.advance();
            if (!tokens.takeSet(draft.off, draft.cpus)) {
                return false;
            }
            draft.off = tokens.bits;
            return tokens.takeSign();
        }

        private boolean readDevice() {
            othersTold = true;
            int d = draft.devices;
            if (d >= DEVICE_LIMIT) {
                return tokens.blame(OUT_OF_PLACE);
            }
            tokens.advance();
            if (!tokens.fitsName()) {
                return false;
            }
            if (draft.deviceNamed(tokens.name) != NONE) {
                return tokens.blame(TOLD_OR_UNKNOWN);
            }
            draft.name[d] = tokens.name;
            draft.letters[d] = tokens.letters;
            tokens.advance();
            if (!readWants(d) || !readOn(d)) {
                return false;
            }
            draft.devices++;
            return tokens.takeSign();
        }

        private boolean readWants(int d) {
            switch (tokens.keyword) {
                case WORD_SINGLE:
                    draft.kind[d] = SINGLE;
                    draft.lines[d] = 1;
                    tokens.advance();
                    return true;
                case WORD_GROUP:
                    draft.kind[d] = GROUP;
                    return readLines(d);
                case WORD_MANAGED:
                    draft.kind[d] = MANAGED;
                    return readLines(d);
                default:
                    return tokens.blameToken();
            }
        }

        private boolean readLines(int d) {
            tokens.advance();
            if (!tokens.fitsNumber(1, LINE_LIMIT)) {
                return false;
            }
            if (draft.kind[d] == GROUP && !isGroupSize(tokens.number)) {
                return tokens.blame(WRONG_NUMBER);
            }
            draft.lines[d] = tokens.number;
            tokens.advance();
            return true;
        }

        private boolean readOn(int d) {
            draft.set[d] = draft.allCpus();
            if (tokens.keyword != WORD_ON) {
                return true;
            }
            tokens.advance();
            if (!tokens.takeSet(0, draft.cpus)) {
                return false;
            }
            draft.set[d] = tokens.bits;
            return true;
        }
    }

    /** Reads ORDERS whole before any is done, since nothing is done at a FAULT. */
    private static final class OrdersText {
        final Tokens tokens;
        final Board board;
        int count;
        final int[] word = new int[ORDER_LIMIT];
        final int[] device = new int[ORDER_LIMIT];
        final int[] number = new int[ORDER_LIMIT];
        final int[] cpus = new int[ORDER_LIMIT];

        OrdersText(Tokens tokens, Board board) {
            this.tokens = tokens;
            this.board = board;
        }

        boolean read() {
            count = 0;
            for (int i = 0; i < ORDER_LIMIT && tokens.kind != TOKEN_END; i++) {
                if (!readOrder(i)) {
                    return false;
                }
                count++;
            }
            return true;
        }

        private boolean readOrder(int k) {
            word[k] = tokens.keyword;
            device[k] = NONE;
            number[k] = NONE;
            cpus[k] = 0;
            if (!readRest(k)) {
                return false;
            }
            return tokens.takeSign();
        }

        private boolean readRest(int k) {
            switch (word[k]) {
                case WORD_START:
                case WORD_STOP:
                case WORD_CLAIM:
                    return readName(k);
                case WORD_RAISE:
                case WORD_LATE:
                    return readName(k) && readNumber(k, 0, LINE_LIMIT - 1);
                case WORD_MOVE:
                    return readName(k) && readNumber(k, 0, LINE_LIMIT - 1) && readTo(k);
                case WORD_TICK:
                    tokens.advance();
                    return readNumber(k, 1, TICK_LIMIT);
                case WORD_PLUG:
                case WORD_UNPLUG:
                    tokens.advance();
                    return readNumber(k, 0, board.cpus - 1);
                default:
                    return tokens.blameToken();
            }
        }

        private boolean readName(int k) {
            tokens.advance();
            if (!tokens.fitsName()) {
                return false;
            }
            device[k] = board.deviceNamed(tokens.name);
            if (device[k] == NONE) {
                return tokens.blame(TOLD_OR_UNKNOWN);
            }
            tokens.advance();
            return true;
        }

        private boolean readNumber(int k, int least, int most) {
            if (!tokens.fitsNumber(least, most)) {
                return false;
            }
            number[k] = tokens.number;
            tokens.advance();
            return true;
        }

        private boolean readTo(int k) {
            if (!tokens.takeWord(WORD_TO) || !tokens.takeSet(0, board.cpus)) {
                return false;
            }
            cpus[k] = tokens.bits;
            return true;
        }
    }

    /**
     * The VECTORS of all CPUS. A place is a CPU times 32 and a VECTOR; an id is a DEVICE times 8 and
     * a LINE. Rows of bits tell what the VECTORS of a CPU are, so that to count is one step.
     */
    private static final class Rows {
        final Board board;
        int online;
        final int[][] row = new int[VECTOR_KINDS][CPU_LIMIT];
        final int[] pending = new int[CPU_LIMIT];
        final int[] owner = new int[PLACE_LIMIT];

        Rows(Board board) {
            this.board = board;
        }

        void empty() {
            for (int c = 0; c < CPU_LIMIT; c++) {
                row[FREE][c] = board.allVectors() & ~board.kept;
                row[KEPT][c] = board.kept;
                row[HELD][c] = 0;
                row[OLD][c] = 0;
                row[RESERVED][c] = 0;
                pending[c] = 0;
            }
            Arrays.fill(owner, NONE);
            online = board.allCpus() & ~board.off;
        }

        void copyFrom(Rows other) {
            online = other.online;
            for (int kind = 0; kind < VECTOR_KINDS; kind++) {
                System.arraycopy(other.row[kind], 0, row[kind], 0, CPU_LIMIT);
            }
            System.arraycopy(other.pending, 0, pending, 0, CPU_LIMIT);
            System.arraycopy(other.owner, 0, owner, 0, PLACE_LIMIT);
        }

        boolean isOnline(int cpu) {
            return (online >>> cpu & 1) == 1;
        }

        int howMany(int kind, int cpu) {
            return Integer.bitCount(row[kind][cpu]);
        }

        int loadOf(int cpu) {
            return Integer.bitCount(row[HELD][cpu] | row[OLD][cpu]);
        }

        int freeOnline() {
            int sum = 0;
            for (int c = 0; c < board.cpus; c++) {
                sum += isOnline(c) ? howMany(FREE, c) : 0;
            }
            return sum;
        }

        int kindAt(int place) {
            if (place < 0 || place >= PLACE_LIMIT) {
                return NONE;
            }
            int cpu = place / VECTOR_LIMIT;
            int vector = place % VECTOR_LIMIT;
            for (int kind = 1; kind < VECTOR_KINDS; kind++) {
                if ((row[kind][cpu] >>> vector & 1) == 1) {
                    return kind;
                }
            }
            return FREE;
        }

        void put(int place, int kind, int id) {
            if (place < 0 || place >= PLACE_LIMIT) {
                return;
            }
            int cpu = place / VECTOR_LIMIT;
            int bit = 1 << place % VECTOR_LIMIT;
            for (int k = 0; k < VECTOR_KINDS; k++) {
                row[k][cpu] &= ~bit;
            }
            row[kind][cpu] |= bit;
            owner[place] = id;
        }

        boolean isPending(int place) {
            return place >= 0 && place < PLACE_LIMIT
                    && (pending[place / VECTOR_LIMIT] >>> place % VECTOR_LIMIT & 1) == 1;
        }

        void pend(int place) {
            if (place >= 0 && place < PLACE_LIMIT) {
                pending[place / VECTOR_LIMIT] |= 1 << place % VECTOR_LIMIT;
            }
        }

        /** Nothing is PENDING at the place then: whether it was. */
        boolean unpend(int place) {
            boolean was = isPending(place);
            if (was) {
                pending[place / VECTOR_LIMIT] &= ~(1 << place % VECTOR_LIMIT);
            }
            return was;
        }

        int greatestPending(int cpu) {
            if (pending[cpu] == 0) {
                return NONE;
            }
            for (int v = board.vectors - 1; v >= 0; v--) {
                if ((pending[cpu] >>> v & 1) == 1) {
                    return v;
                }
            }
            return NONE;
        }

        private boolean isFreeBlock(int cpu, int vector, int n) {
            int ones = (1 << n) - 1;
            return (row[FREE][cpu] >>> vector & ones) == ones;
        }

        /** The least VECTOR of a CPU from which n FREE ones stand, n dividing it. One is a BLOCK too. */
        int firstBlock(int cpu, int n) {
            for (int v = 0; n > 0 && v + n <= board.vectors; v += n) {
                if (isFreeBlock(cpu, v, n)) {
                    return v;
                }
            }
            return NONE;
        }

        int countBlocks(int cpu, int n) {
            int count = 0;
            for (int v = 0; n > 0 && v + n <= board.vectors; v += n) {
                count += isFreeBlock(cpu, v, n) ? 1 : 0;
            }
            return count;
        }

        int greatestBlock(int cpu) {
            for (int n = 8; n >= 1; n /= 2) {
                if (firstBlock(cpu, n) != NONE) {
                    return n;
                }
            }
            return 0;
        }

        int leastLoaded(int cpus) {
            int best = NONE;
            int bestLoad = NONE;
            for (int c = 0; c < board.cpus; c++) {
                int load = Integer.bitCount(row[HELD][c] | row[OLD][c]);
                boolean asked = ((cpus & online) >>> c & 1) == 1;
                if (asked && (best == NONE || load < bestLoad)) {
                    best = c;
                    bestLoad = load;
                }
            }
            return best;
        }

        /** To be DEALT n VECTORS: the place of the first; NONE if there is no room. */
        int deal(int cpus, int n) {
            int roomy = 0;
            for (int c = 0; c < board.cpus; c++) {
                roomy |= firstBlock(c, n) != NONE ? 1 << c : 0;
            }
            int cpu = leastLoaded(cpus & roomy);
            return cpu == NONE ? NONE : cpu * VECTOR_LIMIT + firstBlock(cpu, n);
        }

        int reservedPlace(int cpu, int id) {
            for (int v = 0; v < board.vectors; v++) {
                int place = cpu * VECTOR_LIMIT + v;
                if (owner[place] == id && (row[RESERVED][cpu] >>> v & 1) == 1) {
                    return place;
                }
            }
            return NONE;
        }
    }

    /** What is counted since board(), and the latest that were DELIVERED. */
    private static final class Tally {
        int ticks;
        int logged;
        final int[] delivered = new int[DEVICE_LIMIT];
        final int[] merged = new int[DEVICE_LIMIT];
        final int[] dropped = new int[DEVICE_LIMIT];
        final int[] handled = new int[CPU_LIMIT];
        /** A ring: its entry is an id times 512, a place times 2, and 1 if it was by an OLD one. */
        final int[] entries = new int[LOG_LIMIT];

        void empty() {
            ticks = 0;
            logged = 0;
            Arrays.fill(delivered, 0);
            Arrays.fill(merged, 0);
            Arrays.fill(dropped, 0);
            Arrays.fill(handled, 0);
        }

        void copyFrom(Tally other) {
            ticks = other.ticks;
            logged = other.logged;
            System.arraycopy(other.delivered, 0, delivered, 0, DEVICE_LIMIT);
            System.arraycopy(other.merged, 0, merged, 0, DEVICE_LIMIT);
            System.arraycopy(other.dropped, 0, dropped, 0, DEVICE_LIMIT);
            System.arraycopy(other.handled, 0, handled, 0, CPU_LIMIT);
            System.arraycopy(other.entries, 0, entries, 0, LOG_LIMIT);
        }

        void note(int id, int place, boolean byOld) {
            delivered[id / LINE_LIMIT]++;
            handled[place / VECTOR_LIMIT]++;
            entries[logged % LOG_LIMIT] = id * 512 + place * 2 + (byOld ? 1 : 0);
            logged++;
        }

        int kept() {
            return Math.min(logged, LOG_LIMIT);
        }

        private int latest(int k) {
            return entries[Math.floorMod(logged - 1 - k, LOG_LIMIT)];
        }

        int latestId(int k) {
            return latest(k) / 512;
        }

        int latestPlace(int k) {
            return latest(k) / 2 % PLACE_LIMIT;
        }

        int latestByOld(int k) {
            return latest(k) % 2;
        }

        static int sum(int[] counts) {
            int sum = 0;
            for (int count : counts) {
                sum += count;
            }
            return sum;
        }
    }

    /** All that ACTS change, and the rules by which they do. */
    private static final class State {
        final Board board;
        final Rows rows;
        final Tally tally = new Tally();
        int started;
        int promised;
        final int[] heldAt = new int[ID_LIMIT];
        final int[] oldAt = new int[ID_LIMIT];
        final boolean[] drains = new boolean[ID_LIMIT];
        final boolean[] waits = new boolean[ID_LIMIT];

        State(Board board) {
            this.board = board;
            rows = new Rows(board);
            empty();
        }

        void empty() {
            rows.empty();
            tally.empty();
            started = 0;
            promised = 0;
            for (int id = 0; id < ID_LIMIT; id++) {
                forgetLine(id);
            }
        }

        void copyFrom(State other) {
            rows.copyFrom(other.rows);
            tally.copyFrom(other.tally);
            started = other.started;
            promised = other.promised;
            System.arraycopy(other.heldAt, 0, heldAt, 0, ID_LIMIT);
            System.arraycopy(other.oldAt, 0, oldAt, 0, ID_LIMIT);
            // The library's copies are for rows of numbers.
            for (int id = 0; id < ID_LIMIT; id++) {
                drains[id] = other.drains[id];
                waits[id] = other.waits[id];
            }
        }

        boolean isStarted(int device) {
            return (started >>> device & 1) == 1;
        }

        boolean isPromised(int device) {
            return (promised >>> device & 1) == 1;
        }

        private boolean isManaged(int device) {
            return board.kind[device] == MANAGED;
        }

        int promisedVectors() {
            int sum = 0;
            for (int d = 0; d < board.devices; d++) {
                sum += isPromised(d) ? board.lines[d] : 0;
            }
            return sum;
        }

        /** How many are PENDING or WAIT. */
        int unheard() {
            int sum = 0;
            for (int c = 0; c < board.cpus; c++) {
                sum += Integer.bitCount(rows.pending[c]);
            }
            for (int id = 0; id < board.devices * LINE_LIMIT; id++) {
                sum += waits[id] ? 1 : 0;
            }
            return sum;
        }

        private void hold(int id, int place) {
            rows.put(place, HELD, id);
            heldAt[id] = place;
        }

        /** A VECTOR that a LINE leaves: RESERVED again, if it is a QUEUE's. */
        private void release(int id, int place) {
            boolean queue = isManaged(id / LINE_LIMIT);
            rows.put(place, queue ? RESERVED : FREE, queue ? id : NONE);
        }

        private void releaseOld(int id) {
            release(id, oldAt[id]);
            oldAt[id] = NONE;
            drains[id] = false;
        }

        /** A message at a VECTOR of a LINE: false if it was MERGED. */
        private boolean pendAt(int id, int place) {
            if (rows.isPending(place)) {
                tally.merged[id / LINE_LIMIT]++;
                return false;
            }
            rows.pend(place);
            return true;
        }

        /** START. */
        int begin(int device) {
            if (isStarted(device)) {
                return CANNOT_BE;
            }
            int refused = isManaged(device) ? beginQueues(device) : beginDealt(device);
            if (refused == DONE) {
                started |= 1 << device;
                promised &= ~(1 << device);
            }
            return refused;
        }

        private int beginDealt(int device) {
            int n = board.lines[device];
            int place = rows.deal(board.set[device], n);
            if (place == NONE) {
                return NO_ROOM;
            }
            int ownPromise = isPromised(device) ? n : 0;
            if (rows.freeOnline() - n < promisedVectors() - ownPromise) {
                return PROMISE_BROKEN;
            }
            for (int l = 0; l < n; l++) {
                hold(device * LINE_LIMIT + l, place + l);
            }
            return DONE;
        }

        private int beginQueues(int device) {
            int taken = 0;
            for (int c = 0; c < board.cpus; c++) {
                int wanted = queuesAt(device, c);
                if (wanted > rows.howMany(FREE, c)) {
                    return NO_ROOM;
                }
                taken += rows.isOnline(c) ? wanted : 0;
            }
            if (rows.freeOnline() - taken < promisedVectors()) {
                return PROMISE_BROKEN;
            }
            for (int q = 0; q < board.lines[device]; q++) {
                reserve(device, q);
            }
            for (int q = 0; q < board.lines[device]; q++) {
                int id = device * LINE_LIMIT + q;
                int place = leastLoadedPlace(id, board.allCpus());
                if (place != NONE) {
                    hold(id, place);
                }
            }
            return DONE;
        }

        private int queuesAt(int device, int cpu) {
            int count = 0;
            for (int q = 0; q < board.lines[device]; q++) {
                count += board.queueCpus(device, q) >>> cpu & 1;
            }
            return count;
        }

        private void reserve(int device, int queue) {
            int cpus = board.queueCpus(device, queue);
            for (int c = 0; c < board.cpus; c++) {
                int vector = rows.firstBlock(c, 1);
                if ((cpus >>> c & 1) == 1 && vector != NONE) {
                    rows.put(c * VECTOR_LIMIT + vector, RESERVED, device * LINE_LIMIT + queue);
                }
            }
        }

        /**
         * What a QUEUE has on the least loaded of its ONLINE CPUS among some: what is RESERVED for it,
         * or its OLD one, since nothing is RESERVED for it where that is.
         */
        private int leastLoadedPlace(int id, int cpus) {
            int own = board.queueCpus(id / LINE_LIMIT, id % LINE_LIMIT);
            int cpu = rows.leastLoaded(own & cpus);
            if (cpu == NONE) {
                return NONE;
            }
            return isAt(oldAt[id], cpu) ? oldAt[id] : rows.reservedPlace(cpu, id);
        }

        /** STOP: how many were DROPPED; NONE if it is not STARTED. */
        int halt(int device) {
            if (!isStarted(device)) {
                return NONE;
            }
            int lost = 0;
            for (int c = 0; c < board.cpus; c++) {
                for (int v = 0; v < board.vectors; v++) {
                    int place = c * VECTOR_LIMIT + v;
                    int id = rows.owner[place];
                    if (id != NONE && id / LINE_LIMIT == device) {
                        lost += rows.unpend(place) ? 1 : 0;
                        rows.put(place, FREE, NONE);
                    }
                }
            }
            for (int l = 0; l < board.lines[device]; l++) {
                lost += forgetLine(device * LINE_LIMIT + l) ? 1 : 0;
            }
            started &= ~(1 << device);
            tally.dropped[device] += lost;
            return lost;
        }

        /** The LINE has nothing any more: whether it WAITED. */
        private boolean forgetLine(int id) {
            boolean waited = waits[id];
            heldAt[id] = NONE;
            oldAt[id] = NONE;
            drains[id] = false;
            waits[id] = false;
            return waited;
        }

        /** claim(). */
        int promise(int device) {
            if (isStarted(device) || isPromised(device) || isManaged(device)) {
                return CANNOT_BE;
            }
            if (rows.freeOnline() < promisedVectors() + board.lines[device]) {
                return PROMISE_BROKEN;
            }
            promised |= 1 << device;
            return DONE;
        }

        /** RAISE: 1; 0 if it was MERGED; NONE if it can't be. */
        int signal(int device, int line, boolean late) {
            if (!board.hasLine(device, line) || !isStarted(device)) {
                return NONE;
            }
            int id = device * LINE_LIMIT + line;
            int place = late && oldAt[id] != NONE ? oldAt[id] : heldAt[id];
            if (place != NONE) {
                return pendAt(id, place) ? 1 : 0;
            }
            if (waits[id]) {
                tally.merged[device]++;
                return 0;
            }
            waits[id] = true;
            return 1;
        }

        /** So many TICKS: how many were DELIVERED. */
        int pass(int n) {
            int count = 0;
            for (int i = 0; i < n; i++) {
                count += passOne();
            }
            return count;
        }

        private int passOne() {
            int count = 0;
            for (int c = 0; c < board.cpus; c++) {
                int vector = rows.isOnline(c) ? rows.greatestPending(c) : NONE;
                if (vector != NONE) {
                    deliver(c * VECTOR_LIMIT + vector);
                    count++;
                }
            }
            tally.ticks++;
            if (count > 0) {
                // Only what was handled makes an OLD one DRAIN, or be PENDING no more.
                releaseDrained();
            }
            return count;
        }

        private void deliver(int place) {
            rows.unpend(place);
            int id = rows.owner[place];
            if (id < 0) {
                return;
            }
            boolean byOld = oldAt[id] == place;
            if (!byOld && oldAt[id] != NONE) {
                drains[id] = true;
            }
            tally.note(id, place, byOld);
        }

        private void releaseDrained() {
            for (int id = 0; id < board.devices * LINE_LIMIT; id++) {
                if (drains[id] && oldAt[id] != NONE && !rows.isPending(oldAt[id])) {
                    releaseOld(id);
                }
            }
        }

        /** MOVE. */
        int shift(int device, int line, int cpus) {
            if (!board.hasLine(device, line) || !isStarted(device)) {
                return CANNOT_BE;
            }
            int id = device * LINE_LIMIT + line;
            if (heldAt[id] == NONE) {
                return CANNOT_BE;
            }
            int first = isManaged(device) ? id : device * LINE_LIMIT;
            int n = isManaged(device) ? 1 : board.lines[device];
            if (hasOld(first, n)) {
                return OLD_IS_THERE;
            }
            int others = cpus & ~(1 << heldAt[id] / VECTOR_LIMIT);
            int place = isManaged(device) ? leastLoadedPlace(id, others) : rows.deal(others, n);
            if (place == NONE) {
                return NO_ROOM;
            }
            for (int l = 0; l < n; l++) {
                replace(first + l, place + l);
            }
            return DONE;
        }

        private boolean hasOld(int first, int n) {
            for (int id = first; id < first + n; id++) {
                if (oldAt[id] != NONE) {
                    return true;
                }
            }
            return false;
        }

        private void replace(int id, int place) {
            rows.put(heldAt[id], OLD, id);
            oldAt[id] = heldAt[id];
            hold(id, place);
        }

        /** UNPLUG. A REFUSED one may leave this state half done: it is for a copy. */
        int leave(int cpu) {
            if (!rows.isOnline(cpu)) {
                return CANNOT_BE;
            }
            if (rows.online == 1 << cpu) {
                return ONLY_ONE;
            }
            rows.online &= ~(1 << cpu);
            for (int d = 0; d < board.devices; d++) {
                if (isStarted(d) && isManaged(d)) {
                    bringQueuesAway(d, cpu);
                } else if (isStarted(d) && !bringDealtAway(d, cpu)) {
                    return NO_ROOM;
                }
            }
            return rows.freeOnline() < promisedVectors() ? PROMISE_BROKEN : DONE;
        }

        private static boolean isAt(int place, int cpu) {
            return place != NONE && place / VECTOR_LIMIT == cpu;
        }

        private void bringOldAway(int id, int cpu) {
            if (!isAt(oldAt[id], cpu)) {
                return;
            }
            boolean was = rows.unpend(oldAt[id]);
            releaseOld(id);
            if (was && heldAt[id] != NONE) {
                pendAt(id, heldAt[id]);
            }
        }

        private boolean bringDealtAway(int device, int cpu) {
            int n = board.lines[device];
            int first = device * LINE_LIMIT;
            for (int l = 0; l < n; l++) {
                bringOldAway(first + l, cpu);
            }
            if (!isAt(heldAt[first], cpu)) {
                return true;
            }
            int place = rows.deal(board.set[device], n);
            if (place == NONE) {
                place = rows.deal(board.allCpus(), n);
            }
            if (place == NONE) {
                return false;
            }
            for (int l = 0; l < n; l++) {
                carry(first + l, place + l);
            }
            return true;
        }

        private void bringQueuesAway(int device, int cpu) {
            for (int q = 0; q < board.lines[device]; q++) {
                int id = device * LINE_LIMIT + q;
                bringOldAway(id, cpu);
                if (isAt(heldAt[id], cpu)) {
                    bringQueueAway(id);
                }
            }
        }

        /** A QUEUE goes as in MOVE, or is SHUT. Its OLD one ends only if that is what it HOLDS then. */
        private void bringQueueAway(int id) {
            int place = leastLoadedPlace(id, board.allCpus());
            if (place == oldAt[id]) {
                oldAt[id] = NONE;
                drains[id] = false;
            }
            if (place != NONE) {
                carry(id, place);
                return;
            }
            waits[id] = rows.unpend(heldAt[id]);
            release(id, heldAt[id]);
            heldAt[id] = NONE;
        }

        /** The LINE HOLDS another VECTOR, at which is PENDING what was at the one that it held. */
        private void carry(int id, int place) {
            boolean was = rows.unpend(heldAt[id]);
            release(id, heldAt[id]);
            hold(id, place);
            if (was) {
                pendAt(id, place);
            }
        }

        /** PLUG. */
        int comeBack(int cpu) {
            if (rows.isOnline(cpu)) {
                return CANNOT_BE;
            }
            rows.online |= 1 << cpu;
            for (int d = 0; d < board.devices; d++) {
                for (int q = 0; isStarted(d) && isManaged(d) && q < board.lines[d]; q++) {
                    openQueue(d * LINE_LIMIT + q, cpu);
                }
            }
            return DONE;
        }

        private void openQueue(int id, int cpu) {
            int place = heldAt[id] == NONE ? rows.reservedPlace(cpu, id) : NONE;
            if (place == NONE) {
                return;
            }
            hold(id, place);
            if (waits[id]) {
                waits[id] = false;
                rows.pend(place);
            }
        }
    }

    /**
     * What is now, and ACTS that can be taken back or done again. A slot has the state ahead of its
     * ACT, or behind it once that was taken back: to go either way it changes places with now.
     */
    private static final class History {
        State now;
        private State spare;
        private final State[] slots = new State[ACT_LIMIT];
        private int oldest;
        int done;
        int undone;

        History(Board board) {
            now = new State(board);
            spare = new State(board);
            for (int i = 0; i < ACT_LIMIT; i++) {
                slots[i] = new State(board);
            }
        }

        /** A copy of what is now, on which an ACT may be tried. */
        State draft() {
            spare.copyFrom(now);
            return spare;
        }

        /** The draft is what is now: one ACT more. */
        void keep() {
            if (done == ACT_LIMIT) {
                oldest = (oldest + 1) % ACT_LIMIT;
                done--;
            }
            int slot = (oldest + done) % ACT_LIMIT;
            State unused = slots[slot];
            slots[slot] = now;
            now = spare;
            spare = unused;
            done++;
            undone = 0;
        }

        boolean takeBack() {
            if (done == 0) {
                return false;
            }
            done--;
            undone++;
            exchange((oldest + done) % ACT_LIMIT);
            return true;
        }

        boolean doAgain() {
            if (undone == 0) {
                return false;
            }
            exchange((oldest + done) % ACT_LIMIT);
            done++;
            undone--;
            return true;
        }

        private void exchange(int slot) {
            State other = slots[slot];
            slots[slot] = now;
            now = other;
        }

        void forget() {
            done = 0;
            undone = 0;
        }
    }

    /** What is asked of a state as a whole. */
    private static final class Survey {
        final Board board;
        /** Of the BLOCK that was sought last: how many must go, and its place. */
        int fewest = NONE;
        int block = NONE;

        Survey(Board board) {
            this.board = board;
        }

        int roomFor(State state, int n) {
            int blocks = 0;
            for (int c = 0; c < board.cpus; c++) {
                blocks += state.rows.isOnline(c) ? state.rows.countBlocks(c, n) : 0;
            }
            int unpromised = Math.max(state.rows.freeOnline() - state.promisedVectors(), 0);
            return n < 1 ? 0 : Math.min(blocks, unpromised / n);
        }

        int loadGap(Rows rows) {
            int least = VECTOR_LIMIT;
            int greatest = 0;
            for (int c = 0; c < board.cpus; c++) {
                if (rows.isOnline(c)) {
                    least = Math.min(least, rows.loadOf(c));
                    greatest = Math.max(greatest, rows.loadOf(c));
                }
            }
            return Math.max(greatest - least, 0);
        }

        int ticksUntilQuiet(Rows rows) {
            int most = 0;
            for (int c = 0; c < board.cpus; c++) {
                most = Math.max(most, rows.isOnline(c) ? Integer.bitCount(rows.pending[c]) : 0);
            }
            return most;
        }

        int heldLines(Rows rows) {
            int sum = 0;
            for (int c = 0; c < board.cpus; c++) {
                sum += rows.howMany(HELD, c);
            }
            return sum;
        }

        void seekBlock(State state, int n) {
            fewest = NONE;
            block = NONE;
            for (int c = 0; c < board.cpus; c++) {
                for (int v = 0; n > 0 && state.rows.isOnline(c) && v + n <= board.vectors; v += n) {
                    int cost = costOfBlock(state, c * VECTOR_LIMIT + v, n);
                    if (cost != NONE && (fewest == NONE || cost < fewest)) {
                        fewest = cost;
                        block = c * VECTOR_LIMIT + v;
                    }
                }
            }
        }

        private int costOfBlock(State state, int first, int n) {
            int cost = 0;
            for (int place = first; place < first + n; place++) {
                int kind = state.rows.kindAt(place);
                if (kind == HELD && canGo(state, state.rows.owner[place])) {
                    cost++;
                } else if (kind != FREE) {
                    return NONE;
                }
            }
            return cost;
        }

        private boolean canGo(State state, int id) {
            return id != NONE && board.kind[id / LINE_LIMIT] == SINGLE && state.oldAt[id] == NONE;
        }

        int nearestGroup(State state) {
            int best = NONE;
            int bestCost = NONE;
            for (int d = 0; d < board.devices; d++) {
                if (board.kind[d] == GROUP && !state.isStarted(d)) {
                    seekBlock(state, board.lines[d]);
                    if (fewest != NONE && (best == NONE || fewest < bestCost)) {
                        best = d;
                        bestCost = fewest;
                    }
                }
            }
            return best;
        }

        int wrongVectors(State state) {
            int wrong = 0;
            for (int c = 0; c < board.cpus; c++) {
                for (int v = 0; v < board.vectors; v++) {
                    wrong += isWrong(state, c, v) ? 1 : 0;
                }
            }
            return wrong;
        }

        private boolean isWrong(State state, int cpu, int vector) {
            int things = 0;
            for (int kind = 0; kind < VECTOR_KINDS; kind++) {
                things += state.rows.row[kind][cpu] >>> vector & 1;
            }
            int place = cpu * VECTOR_LIMIT + vector;
            int id = state.rows.owner[place];
            int kind = state.rows.kindAt(place);
            if (things != 1) {
                return true;
            }
            if (kind == FREE || kind == KEPT) {
                return id != NONE || state.rows.isPending(place);
            }
            if (id == NONE || !state.isStarted(id / LINE_LIMIT)) {
                return true;
            }
            if (kind == RESERVED) {
                int cpus = board.queueCpus(id / LINE_LIMIT, id % LINE_LIMIT);
                return (cpus >>> cpu & 1) == 0 || state.rows.isPending(place);
            }
            return place != (kind == HELD ? state.heldAt[id] : state.oldAt[id]);
        }

        int wrongLines(State state) {
            int wrong = 0;
            for (int id = 0; id < board.devices * LINE_LIMIT; id++) {
                wrong += isAstray(state.rows, id, state.heldAt[id], HELD) ? 1 : 0;
                wrong += isAstray(state.rows, id, state.oldAt[id], OLD) ? 1 : 0;
            }
            return wrong;
        }

        private static boolean isAstray(Rows rows, int id, int place, int kind) {
            return place != NONE && (rows.owner[place] != id || rows.kindAt(place) != kind);
        }
    }

    /** A STORM and what came of it. */
    private static final class Storm {
        final Board board;
        int delivered;
        int merged;
        int most;

        Storm(Board board) {
            this.board = board;
        }

        void blow(State state, int firstSeed, int n) {
            delivered = 0;
            merged = 0;
            most = 0;
            int seed = firstSeed;
            int lines = startedLines(state);
            for (int i = 0; i < n; i++) {
                seed = nextSeed(seed);
                if (seed % 4 == 0) {
                    delivered += state.pass(1);
                } else {
                    seed = nextSeed(seed);
                    strike(state, lines > 0 ? seed % lines : NONE);
                }
                most = Math.max(most, state.unheard());
            }
        }

        private static int nextSeed(int seed) {
            return (seed * 137 + 71) % 10_007;
        }

        private int startedLines(State state) {
            int sum = 0;
            for (int d = 0; d < board.devices; d++) {
                sum += state.isStarted(d) ? board.lines[d] : 0;
            }
            return sum;
        }

        /** RAISES the LINE of a number among those of all STARTED DEVICES. */
        private void strike(State state, int number) {
            int rest = number;
            for (int d = 0; d < board.devices && rest >= 0; d++) {
                int lines = state.isStarted(d) ? board.lines[d] : 0;
                if (rest < lines) {
                    merged += state.signal(d, rest, false) == 0 ? 1 : 0;
                }
                rest -= lines;
            }
        }
    }
}
