/** The edges that the document names for texts (Terms, 1) and for promises 1 to 7: a test for each sentence. */
public final class TextEdgesTest {
    private static final Check CHECK = new Check("TextEdgesTest");
    private static final int NONE = VectorDeal.NONE;
    private static final int BLANKS = 0x20202020;

    public static void main(String[] args) {
        newObject();
        feedPutsTheHighestFirst();
        feedComesBehind();
        feedBeyond800();
        endHasTheFirst();
        endOfMoreThanThereAre();
        textOf800Bytes();
        as800Tokens();
        wordsHave8LettersAtMost();
        numbersHave3DigitsAtMost();
        otherSigns();
        blanksPartOrNot();
        noLetterBehindNumber();
        namesHave7LettersAtMost();
        wordsThatAreNoNames();
        cpusFrom1To8();
        vectorsFrom8To32();
        sizesAheadOfOtherLines();
        keptVectors();
        cpusThatAreOff();
        tenDevices();
        groupsOf2And4And8();
        queuesFrom1To8();
        setsOfCpus();
        endOfTextInBoards();
        endOfTextInOrders();
        numbersInOrders();
        namesInOrders();
        firstFaultByItsPlace();
        leastFaultAtOnePlace();
        boardMakesAllNew();
        boardAtFaultLeavesAll();
        ordersUntilOneIsRefused();
        ordersAtFaultDoNothing();
        faultOfTheLatest();
        refusedByWhat();
        CHECK.finish();
    }

    private static void due(String what, long got, long want) {
        CHECK.due(what, got, want);
    }

    /** A board of a text on a new object: how many DEVICES, if there is no FAULT. */
    private static VectorDeal good(String text, int devices) {
        VectorDeal x = new VectorDeal();
        due("board " + text, Check.board(x, text), devices);
        due("no fault of " + text, x.fault(0), 0);
        due("no place of " + text, x.fault(1), NONE);
        return x;
    }

    private static void bad(String text, int fault, int place) {
        VectorDeal x = new VectorDeal();
        due("board " + text, Check.board(x, text), NONE);
        due("fault of " + text, x.fault(0), fault);
        due("place of " + text, x.fault(1), place);
    }

    private static final String ORDERS_BOARD = "cpus 3;vectors 8;device a single;device bb managed 2;device sevenxx group 2;";

    private static void goodOrders(String text, int done) {
        VectorDeal x = Check.made(ORDERS_BOARD);
        due("orders " + text, Check.orders(x, text), done);
        due("no fault of orders " + text, x.fault(0), 0);
        due("no place of orders " + text, x.fault(1), NONE);
    }

    private static void badOrders(String text, int fault, int place) {
        VectorDeal x = Check.made(ORDERS_BOARD);
        String before = Check.state(x);
        due("orders " + text, Check.orders(x, text), NONE);
        due("fault of orders " + text, x.fault(0), fault);
        due("place of orders " + text, x.fault(1), place);
        due("no act by " + text, x.about(10), 0);
        CHECK.same("state behind " + text, Check.state(x), before);
    }

    /** 1: An empty BOARD. */
    private static void newObject() {
        VectorDeal x = new VectorDeal();
        VectorDeal y = new VectorDeal();
        due("1 board of nothing", y.board(), 0);
        CHECK.same("1 a new object", Check.whole(x), Check.whole(y));
        CHECK.same("1 as if told", Check.whole(x), Check.whole(good("cpus 4;vectors 16;", 0)));
        due("1 start", x.start(0), NONE);
        due("1 claim", x.claim(0), NONE);
        due("1 orders", x.orders(), 0);
        due("1 no box 0", x.back(0), NONE);
        due("1 no box 1", x.back(1), NONE);
        due("1 nothing kept", x.about(10) + x.about(11), 0);
    }

    /** 2: Twenty bytes come .., of each number the highest first. */
    private static void feedPutsTheHighestFirst() {
        for (int at = 0; at < 20; at++) {
            for (int sign : new int[] {0, 127, 128, 255}) {
                int[] five = {BLANKS, BLANKS, BLANKS, BLANKS, BLANKS};
                int shift = 24 - at % 4 * 8;
                five[at / 4] = BLANKS & ~(255 << shift) | sign << shift;
                VectorDeal x = new VectorDeal();
                due("2 twenty bytes", x.feed(five[0], five[1], five[2], five[3], five[4]), 20);
                due("2 sign " + sign + " at " + at, x.board(), NONE);
                due("2 no token at " + at, x.fault(0) * 100 + x.fault(1), 100 + at);
            }
        }
    }

    /** 2: .. behind those on the TAPE ..: how many there are. */
    private static void feedComesBehind() {
        VectorDeal x = new VectorDeal();
        Check.tape(x, "cpus 7;");
        due("2 behind seven", x.feed(0x6B657074, 0x20313531, BLANKS, BLANKS, BLANKS), 27);
        due("2 cut", x.end(14), 14);
        Check.tape(x, ";");
        due("2 bytes", x.about(12), 15);
        due("2 board of all three", x.board(), 0);
        due("2 cpus", x.about(0), 7);
        due("2 kept 15", x.vector(6, 15, 0), 1);
        due("2 on an empty tape again", x.feed(BLANKS, BLANKS, BLANKS, BLANKS, BLANKS), 20);
    }

    /** 2: NONE, and nothing comes, if there would be more than 800. */
    private static void feedBeyond800() {
        for (int length = 778; length <= 800; length++) {
            VectorDeal x = new VectorDeal();
            Check.tape(x, " ".repeat(length - 7) + "cpus 6;");
            due("2 length", x.about(12), length);
            boolean fits = length <= 780;
            due("2 feed at " + length, x.feed(BLANKS, BLANKS, BLANKS, BLANKS, BLANKS), fits ? length + 20 : NONE);
            due("2 bytes at " + length, x.about(12), fits ? length + 20 : length);
            due("2 what is there stays", x.board(), 0);
            due("2 cpus at " + length, x.about(0), 6);
        }
        VectorDeal y = new VectorDeal();
        for (int i = 1; i <= 40; i++) {
            due("2 feed " + i, y.feed(BLANKS, BLANKS, BLANKS, BLANKS, BLANKS), 20 * i);
        }
        due("2 full", y.feed(0, 0, 0, 0, 0), NONE);
        due("2 full yet", y.feed(0, 0, 0, 0, 0), NONE);
        due("2 all blanks", y.board(), 0);
    }

    /** 3: The TAPE has its first n bytes: n. */
    private static void endHasTheFirst() {
        String text = "cpus 12345678901234567890";
        for (int n = 0; n <= text.length(); n++) {
            VectorDeal x = new VectorDeal();
            Check.tape(x, text);
            due("3 end at " + n, x.end(n), n);
            due("3 bytes at " + n, x.about(12), n);
            due("3 again at " + n, x.end(n), n);
            x.board();
            // behind "cpus" an N is wanted; 1 can be, 12 and 123 not, more digits are no TOKEN
            int fault = n == 0 ? 0 : n <= 6 ? 2 : n <= 8 ? 4 : 1;
            int place = n == 0 ? NONE : n < 4 ? 0 : n <= 5 ? n : n == 6 ? 6 : 5;
            due("3 fault at " + n, x.fault(0), fault);
            due("3 place at " + n, x.fault(1), place);
        }
        VectorDeal y = new VectorDeal();
        y.feed(BLANKS, BLANKS, BLANKS, BLANKS, BLANKS);
        due("3 nothing is left", y.end(0), 0);
        due("3 of nothing", y.end(0), 0);
        due("3 twenty come", y.feed(BLANKS, BLANKS, BLANKS, BLANKS, BLANKS), 20);
    }

    /** 3: NONE, doing nothing, if it has not so many, or n is below 0. */
    private static void endOfMoreThanThereAre() {
        VectorDeal x = new VectorDeal();
        for (int n : new int[] {-1, -800, Integer.MIN_VALUE, 1, 20, 800, 801, Integer.MAX_VALUE}) {
            due("3 empty tape, end " + n, x.end(n), NONE);
        }
        due("3 nothing there", x.about(12), 0);
        Check.tape(x, "cpus 5;");
        for (int n : new int[] {-1, -7, Integer.MIN_VALUE, 8, 9, 20, 800, 801, Integer.MAX_VALUE}) {
            due("3 seven bytes, end " + n, x.end(n), NONE);
            due("3 nothing done by " + n, x.about(12), 7);
        }
        due("3 board", x.board(), 0);
        due("3 cpus", x.about(0), 5);
    }

    /** A TEXT (a TAPE of at most 800 bytes). */
    private static void textOf800Bytes() {
        due("cpus of 800 bytes", good("cpus 3" + " ".repeat(793) + ";", 0).about(0), 3);
        bad("cpus 3" + " ".repeat(794), 2, 800);
        VectorDeal x = Check.made(ORDERS_BOARD);
        due("orders of 800 bytes", Check.orders(x, "tick 1;" + "tick1;".repeat(132) + " "), 133);
        due("all ticks", x.about(6), 133);
        StringBuilder every = new StringBuilder("tick 100;".repeat(88));
        due("bytes", every.length(), 792);
        due("orders of ticks", Check.orders(x, every + "tick 1; "), 89);
        due("so many ticks", x.about(6), 133 + 8801);
    }

    /** As many TOKENS as bytes: the last one is read like any other. */
    private static void as800Tokens() {
        for (String last : new String[] {";", "1", "a"}) {
            bad(";".repeat(799) + last, 2, 0);
            badOrders(";".repeat(799) + last, 2, 0);
        }
        bad("kept" + " 1".repeat(398), 3, 7);
        VectorDeal x = new VectorDeal();
        due("a last line at the end of the tape", Check.board(x, " ".repeat(784) + "device a single;"), 1);
        due("a last order at the end of the tape", Check.orders(x, " ".repeat(792) + "start a;"), 1);
    }

    /** Words (a .. z, 8 at most). */
    private static void wordsHave8LettersAtMost() {
        good("device a single;device z single;device az single;device za single;", 4);
        bad("device `a single;", 1, 7);
        bad("device a` single;", 1, 8);
        bad("device {a single;", 1, 7);
        bad("device a{ single;", 1, 8);
        bad("device A single;", 1, 7);
        bad("device aZ single;", 1, 8);
        bad("abcdefg", 2, 0);
        bad("abcdefgh", 2, 0);
        bad("abcdefghi", 1, 0);
        bad("abcdefgh i", 2, 0);
        bad("abcdefghijklmnop", 1, 0);
        bad("vectorsx 8;", 2, 0);
        bad("vectorsxx 8;", 1, 0);
        bad("managedmanaged", 1, 0);
        badOrders("unplugxy 1;", 2, 0);
        badOrders("unplugxyz 1;", 1, 0);
        badOrders("start abcdefghi;", 1, 6);
    }

    /** N (1 to 3 digits); each is as long as can be. */
    private static void numbersHave3DigitsAtMost() {
        due("1 digit", good("cpus 8;", 0).about(0), 8);
        due("2 digits", good("cpus 08;", 0).about(0), 8);
        due("3 digits", good("cpus 008;", 0).about(0), 8);
        bad("cpus 0008;", 1, 5);
        bad("cpus 1000;", 1, 5);
        bad("cpus 999;", 4, 5);
        bad("cpus 12345678901;", 1, 5);
        VectorDeal x = good("kept 12;", 0);
        due("12 is kept", x.vector(0, 12, 0), 1);
        due("1 is not", x.vector(0, 1, 0), 0);
        due("2 is not", x.vector(0, 2, 0), 0);
        VectorDeal y = good("kept 1 2;", 0);
        due("1 and 2 are kept", y.vector(0, 1, 0) + y.vector(0, 2, 0), 2);
        due("12 is not kept", y.vector(0, 12, 0), 0);
        goodOrders("tick 001;tick 100;", 2);
        badOrders("tick 0100;", 1, 5);
        bad("cpus /;", 1, 5);
        bad("cpus :;", 1, 5);
        bad("cpus 1/;", 1, 6);
        bad("cpus 1:;", 1, 6);
    }

    /** TOKENS: words, N, the sign ;. Blanks (32, 10): any other byte is no TOKEN. */
    private static void otherSigns() {
        for (int sign = 0; sign < 256; sign++) {
            boolean blank = sign == 32 || sign == 10;
            boolean letter = sign >= 'a' && sign <= 'z';
            boolean digit = sign >= '0' && sign <= '9';
            VectorDeal x = new VectorDeal();
            Check.tape(x, "cpus 2;" + (char) sign);
            due("behind a line " + sign, x.board(), blank ? 0 : NONE);
            due("its fault " + sign, x.fault(0), blank ? 0 : letter || digit || sign == ';' ? 2 : 1);
            due("its place " + sign, x.fault(1), blank ? NONE : 7);
            Check.tape(x, "tick 3" + (char) sign + ";");
            due("in an order " + sign, x.orders(), blank || digit ? 1 : NONE);
            due("fault in an order " + sign, x.fault(0), blank || digit ? 0 : sign == ';' ? 2 : 1);
            due("place in an order " + sign, x.fault(1), blank || digit ? NONE : sign == ';' ? 7 : letter ? 5 : 6);
        }
    }

    /** Blanks part them or not. */
    private static void blanksPartOrNot() {
        VectorDeal x = good("cpus2;vectors9;kept0 8;off1;device a single on0 1;device b group2;device c managed1 on1;", 3);
        due("cpus", x.about(0), 2);
        due("vectors", x.about(1), 9);
        due("sets", x.device(0, 2) * 100 + x.device(1, 2) * 10 + x.device(2, 2), 332);
    }

    /** No letter directly behind an N: it is no TOKEN. */
    private static void noLetterBehindNumber() {
        bad("device c managed 1on 1;", 1, 17);
        good("device c managed 1 on 1;", 1);
        good("device c managed 1\non 1;", 1);
        bad("cpus 2a;", 1, 5);
        bad("cpus 2z;", 1, 5);
        bad("kept 1 12x;", 1, 7);
        badOrders("move a 0to 1;", 1, 7);
        goodOrders("start a;move a 0 to 1;", 2);
    }

    /** NAMES (of which 7 letters count at most: others are none). */
    private static void namesHave7LettersAtMost() {
        good("device a single;", 1);
        good("device abcdefg single;", 1);
        bad("device abcdefgh single;", 2, 7);
        good("device abcdefg single;device abcdefh single;device abcdef single;", 3);
        bad("device abcdefg single;device abcdefgh single;", 2, 29);
        goodOrders("start sevenxx;", 1);
        badOrders("start sevenxxx;", 2, 6);
        badOrders("start sevenx;", 3, 6);
    }

    /** Words that stand for themselves in either are no NAMES. */
    private static void wordsThatAreNoNames() {
        String words = "cpus vectors kept off device single group managed on start stop claim raise late move to tick plug unplug";
        for (String word : words.split(" ")) {
            bad("device " + word + " single;", 2, 7);
            badOrders("start " + word + ";", 2, 6);
            badOrders("raise " + word + " 0;", 2, 6);
            String longer = word.length() < 7 ? word + "x" : word.substring(0, 6);
            good("device " + longer + " single;", 1);
            good("device " + word.substring(0, word.length() - 1) + "q single;", 1);
        }
        good("device board single;device orders single;device order single;device line single;device wants single;", 5);
    }

    /** cpus (1 .. 8; 4 if not told), once. */
    private static void cpusFrom1To8() {
        due("cpus not told", good("vectors 8;", 0).about(0), 4);
        for (int n = 0; n <= 10; n++) {
            if (n >= 1 && n <= 8) {
                VectorDeal x = good("cpus " + n + ";", 0);
                due("cpus " + n, x.about(0), n);
                due("online of " + n, x.about(3), (1 << n) - 1);
                due("the last of " + n, x.cpu(n - 1, 4), 1);
                due("none behind " + n, x.cpu(n, 4), NONE);
            } else {
                bad("cpus " + n + ";", 4, 5);
            }
        }
        bad("cpus 2;cpus 2;", 3, 7);
        bad("vectors 8;cpus 2;cpus 3;", 3, 17);
        bad("cpus 0;cpus 2;", 4, 5);
    }

    /** vectors (8 .. 32; 16), once. */
    private static void vectorsFrom8To32() {
        due("vectors not told", good("cpus 1;", 0).about(1), 16);
        for (int n = 6; n <= 34; n++) {
            if (n >= 8 && n <= 32) {
                VectorDeal x = good("cpus 1;vectors " + n + ";", 0);
                due("vectors " + n, x.about(1), n);
                due("free of " + n, x.about(4), n);
                due("the last of " + n, x.vector(0, n - 1, 0), 0);
                due("none behind " + n, x.vector(0, n, 0), NONE);
            } else {
                bad("cpus 1;vectors " + n + ";", 4, 15);
            }
        }
        bad("vectors 0;", 4, 8);
        bad("vectors 8;vectors 8;", 3, 10);
    }

    /** .. ahead of all other lines; FAULT 2: cpus, vectors behind another line, at the word. */
    private static void sizesAheadOfOtherLines() {
        for (String line : new String[] {"kept 1;", "off 1;", "device a single;"}) {
            for (String size : new String[] {"cpus 2;", "vectors 8;"}) {
                bad(line + size, 2, line.length());
                bad("cpus 2;" + line + size, 2, 7 + line.length());
                bad("vectors 8;" + line + size, 2, 10 + line.length());
            }
        }
        good("cpus 2;vectors 8;kept 1;", 0);
        good("vectors 8;cpus 2;off 1;", 0);
    }

    /** kept: VECTORS that are KEPT (on all CPUS); FAULT 3 twice, FAULT 4 a VECTOR that there is not. */
    private static void keptVectors() {
        VectorDeal x = good("cpus 2;vectors 8;kept 0 7;kept 3;", 0);
        for (int v = 0; v < 8; v++) {
            int kind = v == 0 || v == 3 || v == 7 ? 1 : 0;
            due("kept on 0: " + v, x.vector(0, v, 0), kind);
            due("kept on 1: " + v, x.vector(1, v, 0), kind);
        }
        bad("vectors 8;kept 8;", 4, 15);
        bad("kept 16;", 4, 5);
        bad("vectors 32;kept 32;", 4, 16);
        bad("vectors 32;kept 33;", 4, 16);
        bad("vectors 32;kept 31 63;", 4, 19);
        bad("vectors 32;kept 0 32;", 4, 18);
        bad("kept 0 0;", 3, 7);
        bad("kept 15 1 15;", 3, 10);
        bad("kept 3;off 0;kept 3;", 3, 18);
        bad("kept;", 2, 4);
        VectorDeal full = good("cpus 1;vectors 8;kept 0 1 2 3 4 5 6 7;device a single;", 1);
        due("all are kept", full.about(4), 0);
        due("no room", full.start(0), 1);
        due("no promise", full.claim(0), 2);
        due("none of 32 is free", good("cpus 1;vectors 32;kept 0 1 2 3 4 5 6 7 8 9 10 11 12 13 14 15 16 17 18 19 20 21 22 23 "
                + "24 25 26 27 28 29 30 31;", 0).about(4), 0);
    }

    /** off: CPUS that are not ONLINE at first; FAULT 3 twice, FAULT 4 a CPU that there is not. */
    private static void cpusThatAreOff() {
        VectorDeal x = good("cpus 3;off 0;off 2;", 0);
        due("online", x.about(3), 2);
        due("free of those", x.about(4), 16);
        due("comes", x.plug(0), 0);
        bad("cpus 3;off 3;", 4, 11);
        bad("off 4;", 4, 4);
        bad("cpus 8;off 8;", 4, 11);
        bad("off 0 0;", 3, 6);
        bad("off 3;kept 1;off 3;", 3, 17);
        bad("off;", 2, 3);
        VectorDeal none = good("cpus 2;off 1 0;device a single;device m managed 2;", 2);
        due("none is online", none.about(3), 0);
        due("no room", none.start(0), 1);
        due("no promise", none.claim(0), 2);
        due("queues are shut", none.start(1), 0);
        due("shut", none.line(1, 0, 0), NONE);
        due("not online", none.unplug(0), 4);
        due("a tick delivers nothing", none.tick(1), 0);
    }

    /** device, 10 at most, numbered as told; FAULT 2: a device too many, at the word. */
    private static void tenDevices() {
        StringBuilder text = new StringBuilder();
        for (int d = 0; d < 10; d++) {
            text.append("device ").append((char) ('k' - d)).append(d % 2 == 0 ? " single;" : " group 2;");
            VectorDeal x = good(text.toString(), d + 1);
            due("devices", x.about(2), d + 1);
            due("kind of the last", x.device(d, 0), d % 2 == 0 ? 1 : 2);
            due("none behind it", x.device(d + 1, 0), NONE);
            due("numbered as told", Check.orders(x, "start " + (char) ('k' - d) + ";"), 1);
            due("that one", x.device(d, 3), 1);
        }
        bad(text + "device", 2, text.length());
        bad(text + "device k single;", 2, text.length());
        bad(text + " device #", 2, text.length() + 1);
        good(text + "kept 1;off 1;", 10);
        bad("device a single;device b group 2;device a managed 1;", 3, 40);
    }

    /** group of 2, 4 or 8. */
    private static void groupsOf2And4And8() {
        for (int n = 0; n <= 18; n++) {
            if (n == 2 || n == 4 || n == 8) {
                due("lines of " + n, good("device g group " + n + ";", 1).device(0, 1), n);
            } else {
                bad("device g group " + n + ";", 4, 15);
            }
        }
        bad("device g group 32;", 4, 15);
        bad("device g group 64;", 4, 15);
        bad("device g group;", 2, 14);
        bad("device g group on 1;", 2, 15);
        bad("device g single 1;", 2, 16);
    }

    /** managed: 1 .. 8 QUEUES. */
    private static void queuesFrom1To8() {
        for (int n = 0; n <= 10; n++) {
            if (n >= 1 && n <= 8) {
                due("queues " + n, good("device m managed " + n + ";", 1).device(0, 1), n);
            } else {
                bad("device m managed " + n + ";", 4, 17);
            }
        }
        bad("device m managed;", 2, 16);
        bad("device m;", 2, 8);
        bad("device m on 1;", 2, 9);
        bad("device m wants;", 2, 9);
    }

    /** on: its SET of CPUS (all if not told); FAULT 3 a CPU of one on twice, FAULT 4 one that there is not. */
    private static void setsOfCpus() {
        due("all of 8", good("cpus 8;device a single;", 1).device(0, 2), 255);
        due("all of 1", good("cpus 1;device a single;", 1).device(0, 2), 1);
        due("those that are off, too", good("off 0;device a single;", 1).device(0, 2), 15);
        due("the last of 8", good("cpus 8;device a single on 7;", 1).device(0, 2), 128);
        due("in any order", good("device a single on 3 0 2;", 1).device(0, 2), 13);
        bad("cpus 8;device a single on 8;", 4, 26);
        bad("device a single on 4;", 4, 19);
        bad("device a single on 0 0;", 3, 21);
        bad("device a group 2 on 3 2 1 3;", 3, 26);
        bad("device a single on;", 2, 18);
        bad("device a single on a;", 2, 19);
        good("device a single on 1;device b managed 2 on 1;off 1;", 2);
    }

    /** FAULTS .. (bytes from 0; the end: the text's length). */
    private static void endOfTextInBoards() {
        String[] texts = {"cpus", "cpus 2", "vectors", "vectors 8", "kept", "kept 1", "kept 1 2", "off", "off 1", "device",
            "device a", "device a single", "device a group", "device a group 2", "device a managed", "device a managed 2",
            "device a single on", "device a single on 1"};
        for (String text : texts) {
            bad(text, 2, text.length());
            bad(text + " ", 2, text.length() + 1);
            bad(text + "\n \n", 2, text.length() + 3);
            if (!text.startsWith("cpus")) {
                bad("cpus 2;" + text, 2, text.length() + 7);
            }
        }
        good("", 0);
        good(" ", 0);
        good("\n", 0);
    }

    private static void endOfTextInOrders() {
        String[] texts = {"start", "start a", "stop", "stop a", "claim", "claim a", "raise", "raise a", "raise a 0", "late", "late a",
            "late a 0", "move", "move a", "move a 0", "move a 0 to", "move a 0 to 1", "tick", "tick 1", "plug", "plug 1", "unplug",
            "unplug 1"};
        for (String text : texts) {
            badOrders(text, 2, text.length());
            badOrders(text + "\n ", 2, text.length() + 2);
            badOrders("tick 1;" + text, 2, text.length() + 7);
        }
        goodOrders("", 0);
        goodOrders(" \n", 0);
        badOrders(";", 2, 0);
        badOrders("tick 1;;", 2, 7);
        badOrders("1", 2, 0);
    }

    /** In orders a LINE is 0 .. 7, whether there is such or not; tick 1 .. 100; FAULT 4 a CPU that there is not. */
    private static void numbersInOrders() {
        goodOrders("raise a 7;", 0);
        badOrders("raise a 8;", 4, 8);
        badOrders("raise a 999;", 4, 8);
        goodOrders("late a 7;", 0);
        badOrders("late a 8;", 4, 7);
        goodOrders("move a 7 to 1;", 0);
        badOrders("move a 8 to 1;", 4, 7);
        badOrders("tick 0;", 4, 5);
        goodOrders("tick 1;", 1);
        goodOrders("tick 100;", 1);
        badOrders("tick 101;", 4, 5);
        goodOrders("unplug 0;plug 0;unplug 2;plug 2;", 4);
        badOrders("plug 3;", 4, 5);
        badOrders("unplug 3;", 4, 7);
        goodOrders("move a 0 to 0 1 2;", 0);
        badOrders("move a 0 to 3;", 4, 12);
        badOrders("move a 0 to 2 3;", 4, 14);
        badOrders("move a 0 to 1 2 1;", 3, 16);
        badOrders("move a 0 to 0 00;", 3, 14);
        goodOrders("start a;move a 0 to 1;stop a;start a;move a 0 to 1;", 5);
    }

    /** FAULT 3: .. a NAME of no DEVICE (in orders). */
    private static void namesInOrders() {
        for (String order : new String[] {"start ", "stop ", "claim ", "raise ", "late ", "move "}) {
            badOrders(order + "b;", 3, order.length());
            badOrders(order + "bbb;", 3, order.length());
            badOrders(order + "z 9", 3, order.length());
            badOrders(order + "1;", 2, order.length());
            badOrders(order + ";", 2, order.length());
        }
        VectorDeal x = new VectorDeal();
        due("no device at all", Check.orders(x, "start a;"), NONE);
        due("its fault", x.fault(0) * 100 + x.fault(1), 306);
        due("ticks need none", Check.orders(x, "tick 1;unplug 3;plug 3;"), 3);
    }

    /** FAULTS, the first by its place. */
    private static void firstFaultByItsPlace() {
        bad("cpus 9;#", 4, 5);
        bad("#cpus 9;", 1, 0);
        bad("kept 99 #", 4, 5);
        bad("kept 1 1 99 #", 3, 7);
        bad("cpus cpus #", 2, 5);
        bad("device a single;device a group 3;", 3, 23);
        bad("device a group 3;device a single;", 4, 15);
        badOrders("start c;tick 0;#", 3, 6);
        badOrders("tick 0;start c;#", 4, 5);
        badOrders("tick 1;#tick 0;", 1, 7);
        badOrders("tick 1 tick 0;", 2, 7);
        // a FAULT far behind is one, too, though an order ahead of it would be REFUSED
        badOrders("stop a;".repeat(100) + "stop b;", 3, 705);
    }

    /** At one place the least. */
    private static void leastFaultAtOnePlace() {
        // told already, and behind another line
        bad("cpus 2;kept 1;cpus 2;", 2, 14);
        bad("vectors 8;device a single;vectors 8;", 2, 26);
        // no TOKEN, that could not stand there either
        bad("cpus 2;1234", 1, 7);
        bad("device a single;abcdefghi", 1, 16);
        // a word that is no NAME, and none of a DEVICE
        badOrders("start plug;", 2, 6);
        badOrders("start abcdefgh;", 2, 6);
        badOrders("start abcdefghi;", 1, 6);
        // a number where none can stand, which could not be either
        bad("999;", 2, 0);
        badOrders("tick 1 999;", 2, 7);
    }

    /** 4: nothing is STARTED, no ACTS are kept, BOXES are empty, all counts are 0. */
    private static void boardMakesAllNew() {
        String text = "cpus 2;vectors 8;off 1;device a single;device g group 2;device m managed 2;";
        VectorDeal x = Check.made(text, "start a;start m;claim g;raise a 0;raise a 0;tick 1;raise a 0;raise m 1;plug 1;move a 0 to 1;");
        x.stop(2);
        x.tick(1);
        x.undo();
        x.image(0);
        x.image(1);
        Check.orders(x, "plug 0;");
        due("4 refused before", x.refused(), 4);
        due("4 dropped before", x.about(9), 1);
        due("4 the same text", Check.board(x, text), 3);
        CHECK.same("4 as on a new object", Check.whole(x), Check.whole(Check.made(text)));
        due("4 box 0", x.back(0), NONE);
        due("4 box 1", x.back(1), NONE);
        CHECK.due("4 undo", x.undo(), false);
        CHECK.due("4 redo", x.redo(), false);
        due("4 an empty text", x.board(), 0);
        CHECK.same("4 as a new object", Check.whole(x), Check.whole(new VectorDeal()));
        // a smaller BOARD has nothing of a greater one
        VectorDeal y = Check.made("cpus 8;vectors 32;kept 31;device a managed 8;device b group 8;", "start a;start b;raise b 7;tick 1;");
        due("4 smaller", Check.board(y, "cpus 1;vectors 8;device z single;"), 1);
        CHECK.same("4 as if it had never been", Check.whole(y), Check.whole(Check.made("cpus 1;vectors 8;device z single;")));
        due("4 no such name", Check.orders(y, "start a;"), NONE);
        // what is KEPT, off, RESERVED, OLD, PENDING, WAITS is not any more
        VectorDeal z = Check.made("cpus 3;vectors 16;kept 2 3;off 1;device m managed 1;device o managed 1 on 1;device a single on 0;",
                "start m;start o;start a;raise o 0;raise m 0;move a 0 to 2;late a 0;raise a 0;");
        due("4 reserved before", z.cpu(1, 2) + z.cpu(2, 2), 3);
        due("4 of the same size", Check.board(z, "cpus 3;device b single;"), 1);
        CHECK.same("4 nothing of it is left", Check.whole(z), Check.whole(Check.made("cpus 3;device b single;")));
        due("4 nothing but cpus", Check.board(z, "cpus 3;"), 0);
        CHECK.same("4 no devices are left", Check.whole(z), Check.whole(Check.made("cpus 3;")));
    }

    /** 4: The TAPE (empty then, also at a FAULT) ..; NONE: a FAULT (all else stays). */
    private static void boardAtFaultLeavesAll() {
        String[] texts = {"#", "cpus 3;vectors 9;kept 1;off 0;device q single;cpus", "cpus 0;", "device b single;device b single;",
            "device a group 8;device c", "vectors 32;kept 32;"};
        for (String text : texts) {
            VectorDeal x = Check.made("cpus 2;vectors 8;device a single;device m managed 2;",
                    "start a;start m;raise a 0;tick 1;raise m 1;");
            x.image(1);
            x.tick(1);
            x.raise(0, 0, false);
            x.undo();
            Check.orders(x, "start a;");
            String before = Check.state(x);
            due("4 fault " + text, Check.board(x, text), NONE);
            due("4 tape is empty", x.about(12), 0);
            CHECK.same("4 state stays at " + text, Check.state(x), before);
            due("4 acts stay", x.about(10) * 10 + x.about(11), 21);
            due("4 refused stays", x.refused(), 4);
            due("4 no box 0", x.back(0), NONE);
            CHECK.due("4 redo stays", x.redo(), true);
            due("4 names stay", Check.orders(x, "stop a;stop m;"), 2);
            due("4 box 1 stays", x.back(1), 3);
        }
    }

    /** 5: .. done one by one until one is REFUSED: how many were done (tick N is one). */
    private static void ordersUntilOneIsRefused() {
        VectorDeal x = Check.made("cpus 2;vectors 8;device a single;device b single;");
        due("5 none", Check.orders(x, ""), 0);
        due("5 no act", x.about(10), 0);
        due("5 the first is refused", Check.orders(x, "stop a;start a;tick 100;"), 0);
        due("5 none is done", x.device(0, 3) + x.about(6) + x.about(10), 0);
        due("5 tape is empty", x.about(12), 0);
        due("5 the last is refused", Check.orders(x, "start a;tick 100;stop b;"), 2);
        due("5 tick 100 is one", x.about(6), 100);
        due("5 one act", x.about(10), 1);
        due("5 in the middle", Check.orders(x, "raise a 0;start a;tick 1;"), 1);
        due("5 none behind it", x.about(6), 100);
        due("5 what came ahead", x.about(13), 1);
        x.undo();
        due("5 none done leaves redo", Check.orders(x, "start a;"), 0);
        due("5 redo is there", x.about(11), 1);
        due("5 empty orders leave redo", Check.orders(x, " "), 0);
        due("5 redo is there yet", x.about(11), 1);
        due("5 one done takes redo", Check.orders(x, "tick 1;"), 1);
        due("5 no redo", x.about(11), 0);
        due("5 each sees those ahead of it", Check.orders(x, "start b;raise b 0;tick 1;stop b;stop a;start b;"), 6);
        due("5 b is where a was", x.line(1, 0, 0) * 10 + x.line(1, 0, 1), 0);
    }

    /** 5: The TAPE (empty then, also at a FAULT) ..; NONE: a FAULT (nothing is done). */
    private static void ordersAtFaultDoNothing() {
        VectorDeal x = Check.made("cpus 2;vectors 8;device a single;device b single;", "start a;");
        x.tick(1);
        x.undo();
        String before = Check.state(x);
        for (String text : new String[] {"tick 1;#", "stop a;start b;tick 0;", "raise a 0;raise c 0;", "stop a;tick 1",
                "start a;start c;"}) {
            due("5 fault " + text, Check.orders(x, text), NONE);
            CHECK.same("5 nothing by " + text, Check.state(x), before);
            due("5 tape is empty", x.about(12), 0);
            due("5 acts stay", x.about(10) * 10 + x.about(11), 11);
            due("5 nothing refused", x.refused(), 0);
        }
        CHECK.due("5 redo stays", x.redo(), true);
    }

    /** 6: Of the latest board() or orders() its FAULT (0), its place (NONE). NONE for another what. */
    private static void faultOfTheLatest() {
        VectorDeal x = new VectorDeal();
        due("6 at first", x.fault(0), 0);
        due("6 no place at first", x.fault(1), NONE);
        Check.board(x, "cpus 9;");
        due("6 of board", x.fault(0) * 100 + x.fault(1), 405);
        Check.orders(x, "  #");
        due("6 of orders", x.fault(0) * 100 + x.fault(1), 102);
        x.feed(0, 0, 0, 0, 0);
        x.end(0);
        x.tick(1);
        x.undo();
        x.image(0);
        x.back(0);
        due("6 other calls leave it", x.fault(0) * 100 + x.fault(1), 102);
        Check.board(x, "cpus 1;");
        due("6 no fault of board", x.fault(0), 0);
        due("6 no place of board", x.fault(1), NONE);
        Check.board(x, "cpus");
        due("6 of board again", x.fault(0) * 100 + x.fault(1), 204);
        Check.orders(x, "plug 0;");
        due("6 refused is no fault", x.fault(0), 0);
        due("6 nor has it a place", x.fault(1), NONE);
        Check.board(x, "#");
        due("6 at byte 0", x.fault(1), 0);
        for (int what : new int[] {-1, 2, 3, 100, Integer.MIN_VALUE, Integer.MAX_VALUE}) {
            due("6 another what " + what, x.fault(what), NONE);
        }
    }

    private static void refuses(VectorDeal x, String text, int done, int refused) {
        due("7 done of " + text, Check.orders(x, text), done);
        due("7 refused " + text, x.refused(), refused);
    }

    /** 7: By what the latest of orders() was REFUSED (0: by nothing, behind a FAULT, board(), at first, too; ..: 4). */
    private static void refusedByWhat() {
        VectorDeal x = Check.made("cpus 2;vectors 8;kept 0 1 2 3 4 5;device a single on 0;device g group 2 on 0;device h group 2;"
                + "device m managed 1;device n managed 3 on 1;");
        due("7 at first", x.refused(), 0);
        refuses(x, "stop a;", 0, 4);
        refuses(x, "raise a 0;", 0, 4);
        refuses(x, "late a 0;", 0, 4);
        refuses(x, "move a 0 to 1;", 0, 4);
        refuses(x, "claim m;", 0, 4);
        refuses(x, "plug 1;", 0, 4);
        refuses(x, "start n;", 0, 1);
        refuses(x, "start a;start a;", 1, 4);
        refuses(x, "claim a;", 0, 4);
        refuses(x, "raise a 1;", 0, 4);
        refuses(x, "late a 7;", 0, 4);
        refuses(x, "move a 1 to 1;", 0, 4);
        refuses(x, "start g;", 0, 1);
        refuses(x, "move a 0 to 0;", 0, 1);
        refuses(x, "move a 0 to 1;move a 0 to 0;", 1, 3);
        refuses(x, "claim h;claim h;", 1, 4);
        refuses(x, "start m;", 0, 2);
        refuses(x, "claim g;", 0, 2);
        refuses(x, "unplug 0;", 0, 2);
        refuses(x, "raise a 0;raise a 0;", 2, 0);
        refuses(x, "stop a;start g;start h;unplug 1;", 3, 1);
        refuses(x, "stop g;unplug 1;unplug 1;", 2, 4);
        refuses(x, "unplug 0;", 0, 5);
        x.stop(2);
        x.plug(0);
        x.start(9);
        x.undo();
        due("7 other calls leave it", x.refused(), 5);
        due("7 a fault of orders", Check.orders(x, "plug 9;"), NONE);
        due("7 behind it", x.refused(), 0);
        refuses(x, "unplug 0;", 0, 5);
        refuses(x, "", 0, 0);
        refuses(x, "unplug 0;", 0, 5);
        due("7 board", Check.board(x, "cpus 1;"), 0);
        due("7 behind board", x.refused(), 0);
    }
}
