import java.util.function.IntSupplier;

/** The edges that the document names for promises 18 to 35 and for STORMS (Terms, 3): a test for each sentence. */
public final class AskEdgesTest {
    private static final Check CHECK = new Check("AskEdgesTest");
    private static final int NONE = VectorDeal.NONE;
    private static final int LEAST = Integer.MIN_VALUE;
    private static final int GREATEST = Integer.MAX_VALUE;
    private static final int[] ODD = {LEAST, -100, -2, -1, 0, 1, 2, 3, 4, 5, 6, 7, 8, 9, 10, 14, 15, 16, 31, 32, 33, 64,
        256, 512, 10_000, GREATEST};

    public static void main(String[] args) {
        cpuOfNone();
        cpuFromEmptyToFull();
        greatestBlockOfFree();
        vectorOfNone();
        vectorOfEveryKind();
        deviceOfNone();
        countsSinceBoard();
        lineOfNone();
        lineWithoutOldAndShut();
        spreadByLikeMoreAndFewer();
        spreadOfNone();
        roomFromEmptyToFull();
        roomByBlocks();
        roomOfOtherNumbers();
        balanceOfOnline();
        clearOfWhatIsFree();
        clearOfWhatMustGo();
        clearOfLikeOnes();
        clearOfNone();
        withoutRefused();
        withoutCountsLines();
        stormOfNone();
        stormOfWrongNumbers();
        stormIsItsRaisesAndTicks();
        quietByTicksAlone();
        nearestOfNone();
        nearestOfLikeOnes();
        logKeeps40();
        logTellsAll();
        logOfNone();
        alikeByLetters();
        alikeOfNone();
        lawIsKept();
        imageOfNone();
        backTakesAll();
        aboutOfNone();
        aboutFromEmptyOn();
        nothingIsDoneByAsking();
        CHECK.finish();
    }

    private static void due(String what, long got, long want) {
        CHECK.due(what, got, want);
    }

    private static void idle(VectorDeal x, String what, IntSupplier call, int want) {
        String before = Check.whole(x);
        due(what, call.getAsInt(), want);
        CHECK.same(what + ": nothing is done, but it", Check.whole(x), before);
    }

    /** 18: NONE if there is none such, or for another what. */
    private static void cpuOfNone() {
        for (int cpus : new int[] {1, 3, 8}) {
            VectorDeal x = Check.made("cpus " + cpus + ";");
            for (int a : ODD) {
                for (int b : ODD) {
                    boolean is = a >= 0 && a < cpus && b >= 0 && b <= 6;
                    due("18 cpu " + a + " " + b + " of " + cpus, x.cpu(a, b) == NONE ? 0 : 1, is ? 1 : 0);
                }
            }
        }
    }

    /** 18: LOAD, FREE ones, RESERVED ones, PENDING ones. */
    private static void cpuFromEmptyToFull() {
        VectorDeal x = Check.made("cpus 2;vectors 32;kept 31;device a group 8 on 0;device b group 8 on 0;device c group 8 on 0;"
                + "device d group 4 on 0;"
                + "device m managed 8 on 0;device n managed 1;", "");
        due("18 empty", x.cpu(0, 0) + x.cpu(0, 2) + x.cpu(0, 3) + x.cpu(0, 6), 0);
        due("18 all but one free", x.cpu(0, 1), 31);
        Check.orders(x, "start a;start b;start c;start d;start n;");
        due("18 n is on 1, reserved on 0", x.cpu(0, 2) * 10 + x.cpu(1, 2), 10);
        due("18 load", x.cpu(0, 0) * 10 + x.cpu(1, 0), 281);
        due("18 free", x.cpu(0, 1), 2);
        for (int l = 0; l < 8; l++) {
            x.raise(0, l, false);
            x.raise(2, l, false);
        }
        due("18 pending", x.cpu(0, 3), 16);
        x.tick(100);
        due("18 handled", x.cpu(0, 6), 16);
        due("18 none pends", x.cpu(0, 3), 0);
        x.unplug(1);
        due("18 not online", x.cpu(1, 4), 0);
        due("18 the queue is reserved there", x.cpu(1, 2) * 10 + x.cpu(1, 0), 10);
        due("18 online", x.cpu(0, 4), 1);
        VectorDeal full = Check.made("cpus 1;vectors 8;device g group 8;", "start g;");
        due("18 none free", full.cpu(0, 1), 0);
        due("18 full load", full.cpu(0, 0), 8);
        due("18 no block", full.cpu(0, 5), 0);
    }

    /** 18: the greatest of 8, 4, 2, 1 of which it has a FREE aligned BLOCK (0: none). */
    private static void greatestBlockOfFree() {
        String[] boards = {"vectors 8;", "vectors 8;kept 0;", "vectors 8;kept 3 4;", "vectors 8;kept 1 2 5 6;", "vectors 8;kept 1 2 5 7;",
            "vectors 8;kept 0 2 4 6;", "vectors 8;kept 0 1 2 3 4 5 6;", "vectors 8;kept 0 1 2 3 4 5 6 7;", "vectors 15;kept 7;",
            "vectors 16;kept 7;", "vectors 32;kept 0 8 16;", "vectors 31;kept 0 8 16;", "vectors 9;kept 1 3 5 7;",
            "vectors 10;kept 1 3 5 7;",
            "vectors 11;kept 0 1 2 3 4 5 6 7;", "vectors 12;kept 0 1 2 3 4 5 6 7;"};
        int[] wants = {8, 4, 2, 1, 1, 1, 1, 0, 4, 8, 8, 4, 1, 2, 2, 4};
        for (int i = 0; i < boards.length; i++) {
            due("18 block of " + boards[i], Check.made("cpus 1;" + boards[i]).cpu(0, 5), wants[i]);
        }
        due("18 where it is off, too", Check.made("cpus 1;off 0;").cpu(0, 5), 8);
        VectorDeal x = Check.made("cpus 2;vectors 8;device m managed 1;", "start m;");
        due("18 reserved ones are not free", x.cpu(1, 5), 4);
    }

    /** 19: NONE if there is none such, or for another what. */
    private static void vectorOfNone() {
        for (String board : new String[] {"cpus 1;vectors 8;", "cpus 3;vectors 9;", "cpus 8;vectors 32;"}) {
            VectorDeal x = Check.made(board);
            for (int a : ODD) {
                for (int b : ODD) {
                    for (int c : ODD) {
                        boolean is = a >= 0 && a < x.about(0) && b >= 0 && b < x.about(1) && (c == 0 || c == 3);
                        due("19 vector " + a + " " + b + " " + c + " of " + board, x.vector(a, b, c) == NONE ? 0 : 1, is ? 1 : 0);
                    }
                }
            }
        }
    }

    /** 19: FREE 0, KEPT 1, HELD 2, OLD 3, RESERVED 4; its DEVICE; its LINE or QUEUE (NONE, if it has none); PENDING. */
    private static void vectorOfEveryKind() {
        VectorDeal x = Check.made("cpus 2;vectors 32;kept 0;device y single;device g group 8 on 0;device m managed 8;",
                "start g;start m;move g 7 to 1;late g 7;raise m 7;");
        // m: QUEUE q on the CPU q modulo 2, at 1 .. 4
        int[][] wants = {{0, 0, 1, NONE, NONE, 0}, {0, 7, 0, NONE, NONE, 0}, {0, 8, 3, 1, 0, 0}, {0, 15, 3, 1, 7, 1}, {1, 8, 2, 1, 0, 0},
            {1, 15, 2, 1, 7, 0}, {0, 1, 2, 2, 0, 0}, {1, 4, 2, 2, 7, 1}, {0, 31, 0, NONE, NONE, 0}, {1, 31, 0, NONE, NONE, 0}};
        for (int[] want : wants) {
            for (int what = 0; what <= 3; what++) {
                due("19 vector " + want[0] + " " + want[1] + " " + what, x.vector(want[0], want[1], what), want[2 + what]);
            }
        }
        x.unplug(1);
        due("19 reserved", x.vector(1, 4, 0) * 100 + x.vector(1, 4, 1) * 10 + x.vector(1, 4, 2), 427);
        due("19 nothing pends there", x.vector(1, 4, 3), 0);
        x.stop(2);
        due("19 free", x.vector(1, 4, 0), 0);
        due("19 of none", x.vector(1, 4, 1) + x.vector(1, 4, 2), 2 * NONE);
    }

    /** 20: NONE if there is none such, or for another what. */
    private static void deviceOfNone() {
        for (int devices : new int[] {0, 1, 10}) {
            StringBuilder board = new StringBuilder();
            for (int d = 0; d < devices; d++) {
                board.append("device ").append((char) ('a' + d)).append(" single;");
            }
            VectorDeal x = Check.made(board.toString());
            for (int a : ODD) {
                for (int b : ODD) {
                    boolean is = a >= 0 && a < devices && b >= 0 && b <= 7;
                    due("20 device " + a + " " + b + " of " + devices, x.device(a, b) == NONE ? 0 : 1, is ? 1 : 0);
                }
            }
        }
    }

    /** 20: DELIVERED, MERGED, DROPPED (all of these since board()). */
    private static void countsSinceBoard() {
        String board = "cpus 1;vectors 8;device a single;device b single;";
        VectorDeal x = Check.made(board, "start a;start b;raise a 0;raise a 0;raise a 0;tick 1;raise a 0;stop a;start a;raise a 0;tick 1;"
                + "raise a 0;stop a;");
        due("20 of a, though it stopped", x.device(0, 5) * 100 + x.device(0, 6) * 10 + x.device(0, 7), 222);
        due("20 of b", x.device(1, 5) * 100 + x.device(1, 6) * 10 + x.device(1, 7), 0);
        due("20 of all", x.about(7) * 100 + x.about(8) * 10 + x.about(9), 222);
        Check.board(x, board);
        due("20 of a new board", x.device(0, 5) * 100 + x.device(0, 6) * 10 + x.device(0, 7), 0);
        due("20 not started, not promised", x.device(0, 3) * 10 + x.device(0, 4), 0);
        x.claim(0);
        due("20 promised", x.device(0, 3) * 10 + x.device(0, 4), 1);
        x.start(0);
        due("20 started", x.device(0, 3) * 10 + x.device(0, 4), 10);
    }

    /** 21: NONE .. if there is no such LINE, or it is not STARTED, or for another what. */
    private static void lineOfNone() {
        VectorDeal x = Check.made("cpus 2;vectors 16;device a single;device g group 8;device m managed 3;device z single;",
                "start a;start g;start m;claim z;");
        int[] lines = {1, 8, 3, 0};
        for (int a : ODD) {
            for (int b : ODD) {
                for (int c : ODD) {
                    boolean is = a >= 0 && a < 4 && b >= 0 && b < lines[a] && (c == 0 || c == 1 || c == 4 || c == 5);
                    due("21 line " + a + " " + b + " " + c, x.line(a, b, c) == NONE ? 0 : 1, is ? 1 : 0);
                }
            }
        }
        x.stop(1);
        for (int what = -1; what <= 6; what++) {
            due("21 stopped " + what, x.line(1, 0, what), NONE);
        }
    }

    /** 21: the CPU, the VECTOR of its OLD one, 1 if that DRAINS, 1 if it WAITS; NONE where there is none (SHUT). */
    private static void lineWithoutOldAndShut() {
        VectorDeal x = Check.made("cpus 2;vectors 32;off 1;device a single;device z group 2 on 0;device m managed 1 on 1;"
                + "device k group 8 on 1;",
                "start a;start z;start m;");
        due("21 at 0 of 0", x.line(0, 0, 0) * 100 + x.line(0, 0, 1), 0);
        due("21 no old one", x.line(0, 0, 2) + x.line(0, 0, 3), 2 * NONE);
        due("21 nothing drains", x.line(0, 0, 4), 0);
        due("21 shut", x.line(2, 0, 0) + x.line(2, 0, 1), 2 * NONE);
        due("21 shut, and no old one", x.line(2, 0, 2) + x.line(2, 0, 3), 2 * NONE);
        due("21 shut, neither drains nor waits", x.line(2, 0, 4) * 10 + x.line(2, 0, 5), 0);
        x.raise(2, 0, false);
        due("21 it waits", x.line(2, 0, 5), 1);
        Check.orders(x, "plug 1;start k;move a 0 to 1;raise a 0;late a 0;raise z 1;");
        due("21 old", x.line(0, 0, 2) * 100 + x.line(0, 0, 3), 0);
        due("21 new", x.line(0, 0, 0) * 100 + x.line(0, 0, 1), 101);
        due("21 does not drain yet", x.line(0, 0, 4), 0);
        x.tick(1);
        due("21 drains", x.line(0, 0, 4), 1);
        due("21 k's last", x.line(3, 7, 0) * 100 + x.line(3, 7, 1), 115);
        due("21 opened", x.line(2, 0, 0) * 100 + x.line(2, 0, 1), 100);
        due("21 waits no more", x.line(2, 0, 5), 0);
    }

    /** SPREAD: the i-th is of QUEUE i * QUEUES / m (cut), if there are no fewer CPUS than QUEUES; else QUEUE q is on the CPU q modulo m. */
    private static void spreadByLikeMoreAndFewer() {
        // for each of the CPUS by their numbers its QUEUE
        spreads("8", "", 1, 0, 0, 0, 0, 0, 0, 0, 0);
        spreads("8", "", 2, 0, 0, 0, 0, 1, 1, 1, 1);
        spreads("8", "", 3, 0, 0, 0, 1, 1, 1, 2, 2);
        spreads("8", "", 5, 0, 0, 1, 1, 2, 3, 3, 4);
        spreads("8", "", 7, 0, 0, 1, 2, 3, 4, 5, 6);
        spreads("8", "", 8, 0, 1, 2, 3, 4, 5, 6, 7);
        spreads("3", "", 2, 0, 0, 1);
        spreads("3", "", 3, 0, 1, 2);
        spreads("1", "", 1, 0);
        spreads("8", " on 7 2 5", 2, NONE, NONE, 0, NONE, NONE, 0, NONE, 1);
        spreads("8", " on 7 2 5", 3, NONE, NONE, 0, NONE, NONE, 1, NONE, 2);
        // fewer CPUS than QUEUES: those of each QUEUE, as bits
        fewer("3", "", 1, 2, 4, 1);
        fewer("7", "", 1, 2, 4, 8, 16, 32, 64, 1);
        fewer("1", "", 1, 1, 1, 1, 1, 1, 1, 1);
        fewer("8", " on 6 1 3", 2, 8, 64, 2, 8);
        fewer("8", " on 7", 128, 128);
        fewer("8", " on 6 5 4 3 2 1 0", 1, 2, 4, 8, 16, 32, 64, 1);
    }

    private static void spreads(String cpus, String on, int queues, int... queueOf) {
        VectorDeal x = Check.made("cpus " + cpus + ";device m managed " + queues + on + ";");
        for (int q = 0; q < queues; q++) {
            int bits = 0;
            for (int c = 0; c < queueOf.length; c++) {
                bits |= queueOf[c] == q ? 1 << c : 0;
            }
            due("22 queue " + q + " of " + queues + " on " + cpus + on, x.spread(0, q), bits);
        }
        due("22 none behind", x.spread(0, queues), 0);
    }

    private static void fewer(String cpus, String on, int... bits) {
        VectorDeal x = Check.made("cpus " + cpus + ";device m managed " + bits.length + on + ";");
        for (int q = 0; q < bits.length; q++) {
            due("22 queue " + q + " on fewer, " + cpus + on, x.spread(0, q), bits[q]);
        }
        due("22 none behind those", x.spread(0, bits.length), 0);
    }

    /** 22: 0 if there is none such. */
    private static void spreadOfNone() {
        VectorDeal x = Check.made("cpus 2;off 0 1;device a single;device g group 4;device m managed 3;");
        for (int a : ODD) {
            for (int b : ODD) {
                boolean is = a == 2 && b >= 0 && b < 3;
                due("22 spread " + a + " " + b, x.spread(a, b), is ? 1 << b % 2 : 0);
            }
        }
        x.start(2);
        due("22 started or not", x.spread(2, 1), 2);
    }

    /** 23: How many more DEVICES of so many LINES (SET: all) could be STARTED, one behind another. */
    private static void roomFromEmptyToFull() {
        VectorDeal x = Check.made("cpus 8;vectors 32;");
        due("23 all", x.room(1), 256);
        due("23 of two", x.room(2), 128);
        due("23 of four", x.room(4), 64);
        due("23 of eight", x.room(8), 32);
        VectorDeal full = Check.made("cpus 1;vectors 8;device g group 8;", "start g;");
        VectorDeal kept = Check.made("cpus 1;vectors 8;kept 0 1 2 3 4 5 6 7;");
        VectorDeal off = Check.made("cpus 2;off 0 1;");
        for (int n = 1; n <= 8; n *= 2) {
            due("23 full " + n, full.room(n), 0);
            due("23 kept " + n, kept.room(n), 0);
            due("23 off " + n, off.room(n), 0);
        }
        due("23 the last one", Check.made("cpus 1;vectors 8;kept 0 1 2 3 4 5 6;").room(1), 1);
        due("23 not the last two", Check.made("cpus 1;vectors 8;kept 0 1 2 3 4 5 6;").room(2), 0);
    }

    /** 23: by aligned BLOCKS, on ONLINE CPUS, and not of what is PROMISED to others. */
    private static void roomByBlocks() {
        VectorDeal x = Check.made("cpus 2;vectors 15;kept 5;off 1;device m managed 1 on 0;device g group 2;device h group 4;"
                + "device a single;");
        due("23 of one", x.room(1), 14);
        due("23 of two", x.room(2), 6);
        due("23 of four", x.room(4), 2);
        due("23 of eight", x.room(8), 0);
        x.start(0);
        due("23 a queue takes one", x.room(1), 13);
        due("23 and a block", x.room(4) * 10 + x.room(2), 15);
        x.plug(1);
        due("23 with another", x.room(1) * 10 + x.room(4), 273);
        x.unplug(1);
        // so many of these as can be started: they are tried
        VectorDeal y = Check.made("cpus 2;vectors 8;kept 1 6;device p group 4;device a group 2;device b group 2;device c group 2;"
                + "device d group 2;device e group 2;");
        due("23 twelve are free", y.about(4), 12);
        due("23 of two", y.room(2), 4);
        y.claim(0);
        due("23 eight are not promised", y.room(2) * 10 + y.room(1), 48);
        y.start(1);
        due("23 six", y.room(2) * 10 + y.room(1), 36);
        y.start(2);
        due("23 four", y.room(2) * 10 + y.room(1), 24);
        y.start(3);
        due("23 two", y.room(2) * 10 + y.room(1), 12);
        y.start(4);
        due("23 none, although four are free", y.room(1) * 10 + y.about(4), 4);
        due("23 and none can be started", y.start(5), 1);
        // fewer than promised
        VectorDeal z = Check.made("cpus 2;vectors 8;kept 1 2 3 4 5 6 7;device a single on 0;device b single;",
                "start a;claim b;move a 0 to 1;");
        due("23 fewer than promised", z.room(1) * 10 + z.about(4), 0);
    }

    /** 23: NONE for another number. */
    private static void roomOfOtherNumbers() {
        VectorDeal x = new VectorDeal();
        for (int n : ODD) {
            boolean is = n == 1 || n == 2 || n == 4 || n == 8;
            due("23 room " + n, x.room(n) == NONE ? 0 : 1, is ? 1 : 0);
        }
    }

    /** 24: The greatest LOAD of an ONLINE CPU less the least. */
    private static void balanceOfOnline() {
        due("24 none is online", Check.made("cpus 3;off 0 1 2;").balance(), 0);
        due("24 one", Check.made("cpus 1;device a single;", "start a;").balance(), 0);
        VectorDeal x = Check.made("cpus 3;vectors 32;off 2;device a group 8 on 0;device b group 8 on 0;device c group 8 on 0;"
                + "device d group 8 on 0;device e group 2 on 1;");
        due("24 empty", x.balance(), 0);
        Check.orders(x, "start a;start b;start c;start d;");
        due("24 full and empty", x.balance(), 32);
        x.start(4);
        due("24 less", x.balance(), 30);
        x.plug(2);
        due("24 with an empty one", x.balance(), 32);
        VectorDeal y = Check.made("cpus 2;vectors 8;kept 0 1;device m managed 1;", "start m;");
        due("24 kept and reserved ones don't count", y.balance(), 1);
        y.move(0, 0, 2);
        due("24 old ones do", y.balance(), 0);
    }

    /** 25: the fewest VECTORS that must go: 0 where a BLOCK is FREE. */
    private static void clearOfWhatIsFree() {
        VectorDeal x = Check.made("cpus 3;vectors 12;kept 0;off 0;");
        due("25 two", x.clear(2, 0) * 1000 + x.clear(2, 1) * 100 + x.clear(2, 2), 102);
        due("25 four", x.clear(4, 0) * 1000 + x.clear(4, 1) * 100 + x.clear(4, 2), 104);
        due("25 eight is kept, and four are no eight", x.clear(8, 0), NONE);
        due("25 no cpu", x.clear(8, 1), NONE);
        due("25 no vector", x.clear(8, 2), NONE);
        VectorDeal y = Check.made("cpus 1;vectors 32;kept 0 8 16;");
        due("25 the last eight", y.clear(8, 0) * 100 + y.clear(8, 2), 24);
        due("25 not the rest of a row", Check.made("cpus 1;vectors 31;kept 0 8 16;").clear(8, 0), NONE);
    }

    /** 25: all HELD by LINES of DEVICES of one without OLD ones (wherever they would go). */
    private static void clearOfWhatMustGo() {
        VectorDeal x = Check.made("cpus 1;vectors 8;device a single;device b single;device c single;device d single;device e single;"
                + "device f single;"
                + "device g single;device h single;", "start a;start b;start c;start d;start e;start f;start g;start h;");
        due("25 all eight must go, though there is no room", x.clear(8, 0) * 10 + x.clear(8, 2), 80);
        due("25 four", x.clear(4, 0) * 10 + x.clear(4, 2), 40);
        due("25 two", x.clear(2, 0) * 10 + x.clear(2, 2), 20);
        x.stop(5);
        due("25 one of two, at 4", x.clear(2, 0) * 10 + x.clear(2, 2), 14);
        due("25 three of four, at 4", x.clear(4, 0) * 10 + x.clear(4, 2), 34);
        due("25 seven of eight", x.clear(8, 0) * 10 + x.clear(8, 2), 70);
        x.stop(2);
        x.stop(3);
        due("25 a free two", x.clear(2, 0) * 10 + x.clear(2, 2), 2);
        due("25 two of four, at 0", x.clear(4, 0) * 10 + x.clear(4, 2), 20);
        // lines of groups, queues, what is reserved or kept, old ones and their lines can't go
        VectorDeal y = Check.made("cpus 2;vectors 8;kept 0;device m managed 1;device g group 2;device a single on 0;device b single on 1;",
                "start m;start g;start a;start b;");
        due("25 m, g, a", y.line(0, 0, 1) * 100 + y.line(1, 0, 1) * 10 + y.line(2, 0, 1), 122);
        due("25 four behind them", y.clear(4, 0) * 100 + y.clear(4, 1) * 10 + y.clear(4, 2), 4);
        due("25 no eight", y.clear(8, 0), NONE);
        VectorDeal z = Check.made("cpus 2;vectors 8;kept 2 4 6;device a single on 0;device b single on 1;", "start a;start b;");
        due("25 one must go, of like ones the least", z.clear(2, 0) * 100 + z.clear(2, 1) * 10 + z.clear(2, 2), 100);
        z.move(0, 0, 2);
        // on 1: b at 0, a at 1, which has an old one on 0
        due("25 neither the old nor the new one", z.clear(2, 0), NONE);
        Check.orders(z, "raise a 0;tick 1;");
        due("25 once it is gone", z.clear(2, 0) * 100 + z.clear(2, 1) * 10 + z.clear(2, 2), 0);
        z.unplug(0);
        due("25 both must go", z.clear(2, 0) * 100 + z.clear(2, 1) * 10 + z.clear(2, 2), 210);
    }

    /** 25: of like ones the least CPU, the least VECTOR. */
    private static void clearOfLikeOnes() {
        VectorDeal x = Check.made("cpus 3;vectors 8;off 0;device a single on 1;device b single on 2;device c single on 1;"
                + "device d single on 1;", "start a;start b;start c;start d;");
        // on 1: a c d, on 2: b
        due("25 eight: one of 2", x.clear(8, 0) * 100 + x.clear(8, 1) * 10 + x.clear(8, 2), 120);
        due("25 four: none of 1, from 4 on", x.clear(4, 0) * 100 + x.clear(4, 1) * 10 + x.clear(4, 2), 14);
        due("25 two", x.clear(2, 1) * 10 + x.clear(2, 2), 14);
        x.stop(2);
        x.stop(3);
        due("25 eight: one of 1 or of 2", x.clear(8, 0) * 100 + x.clear(8, 1) * 10 + x.clear(8, 2), 110);
        x.plug(0);
        due("25 eight: none of 0", x.clear(8, 0) * 100 + x.clear(8, 1) * 10 + x.clear(8, 2), 0);
    }

    /** 25: NONE if there is no such one, or for another n, what. */
    private static void clearOfNone() {
        VectorDeal x = new VectorDeal();
        for (int n : ODD) {
            for (int what : ODD) {
                boolean is = (n == 2 || n == 4 || n == 8) && what >= 0 && what <= 2;
                due("25 clear " + n + " " + what, x.clear(n, what), is ? 0 : NONE);
            }
        }
        for (String board : new String[] {"cpus 2;off 0 1;", "cpus 1;vectors 8;kept 0 2 4 6;", "cpus 1;vectors 8;kept 1 3 5 7;"}) {
            VectorDeal y = Check.made(board);
            for (int what = 0; what <= 2; what++) {
                due("25 no such one " + board, y.clear(2, what) + y.clear(4, what) + y.clear(8, what), 3 * NONE);
            }
        }
    }

    /** 26: by what it is REFUSED (0: it is not); .. (0 if it is REFUSED). NONE if there is no such CPU, or for another what. */
    private static void withoutRefused() {
        VectorDeal x = Check.made("cpus 3;vectors 8;kept 0 1 2 3 4 5;off 2;device g group 2 on 0;device h group 2 on 1;device a single;",
                "start g;start h;");
        for (int a : ODD) {
            for (int b : ODD) {
                boolean is = a >= 0 && a < 3 && (b == 0 || b == 1);
                due("26 without " + a + " " + b, x.without(a, b) == NONE ? 0 : 1, is ? 1 : 0);
            }
        }
        idle(x, "26 no room", () -> x.without(0, 0), 1);
        idle(x, "26 none would", () -> x.without(0, 1), 0);
        idle(x, "26 not online", () -> x.without(2, 0), 4);
        idle(x, "26 none of it", () -> x.without(2, 1), 0);
        x.stop(1);
        idle(x, "26 it could", () -> x.without(0, 0), 0);
        idle(x, "26 both lines", () -> x.without(0, 1), 2);
        x.claim(2);
        idle(x, "26 promises", () -> x.without(0, 0), 2);
        idle(x, "26 none by promises", () -> x.without(0, 1), 0);
        idle(x, "26 an empty one, by promises", () -> x.without(1, 0), 2);
        VectorDeal y = Check.made("cpus 2;off 1;device a single;", "start a;");
        idle(y, "26 the only one", () -> y.without(0, 0), 5);
        idle(y, "26 none of the only one", () -> y.without(0, 1), 0);
    }

    /** 26: how many LINES would have another CPU (SHUT ones, too). */
    private static void withoutCountsLines() {
        VectorDeal x = Check.made("cpus 3;vectors 32;device a single on 0;device g group 8 on 0;device m managed 1 on 0 1;"
                + "device o managed 2 on 0;device b single on 1;device r managed 1 on 1 0;",
                "start a;start g;start b;start m;start o;start r;raise a 0;raise o 0;");
        due("26 m is on 1, r, too", x.line(2, 0, 0) * 10 + x.line(5, 0, 0), 11);
        idle(x, "26 a, g, o", () -> x.without(0, 1), 11);
        idle(x, "26 b, m, r", () -> x.without(1, 1), 3);
        idle(x, "26 none", () -> x.without(2, 1), 0);
        Check.orders(x, "move a 0 to 2;move m 0 to 0;");
        idle(x, "26 old ones don't count: m instead of a", () -> x.without(0, 1), 11);
        idle(x, "26 b, r", () -> x.without(1, 1), 2);
        idle(x, "26 a", () -> x.without(2, 1), 1);
        int told = x.without(0, 1);
        int lines = 0;
        int[][] before = new int[6][8];
        for (int d = 0; d < 6; d++) {
            for (int l = 0; l < 8; l++) {
                before[d][l] = x.line(d, l, 0);
            }
        }
        x.unplug(0);
        for (int d = 0; d < 6; d++) {
            for (int l = 0; l < 8; l++) {
                lines += x.line(d, l, 0) != before[d][l] ? 1 : 0;
            }
        }
        due("26 as it comes", lines, told);
    }

    /** STORM: .. (none: nothing); 27: (0 if n is). */
    private static void stormOfNone() {
        VectorDeal x = Check.made("cpus 2;vectors 8;device a single;device m managed 8;", "claim a;");
        for (int what = 0; what <= 3; what++) {
            int asked = what;
            idle(x, "27 nothing is started " + what, () -> x.storm(9_999, 500, asked), 0);
        }
        Check.orders(x, "start a;start m;raise a 0;raise m 7;raise m 6;");
        idle(x, "27 none delivered by none", () -> x.storm(0, 0, 0), 0);
        idle(x, "27 none merged by none", () -> x.storm(0, 0, 1), 0);
        idle(x, "27 none behind none", () -> x.storm(0, 0, 2), 0);
        idle(x, "27 yet are all", () -> x.storm(0, 0, 3), 3);
        due("27 a long one", x.storm(3, 500, 2) > 3 && x.storm(3, 500, 1) > 0 && x.storm(3, 500, 0) > 0 ? 1 : 0, 1);
        idle(x, "27 none behind none, behind a long one", () -> x.storm(0, 0, 2), 0);
        idle(x, "27 none delivered, behind a long one", () -> x.storm(0, 0, 0), 0);
        idle(x, "27 none merged, behind a long one", () -> x.storm(0, 0, 1), 0);
        VectorDeal empty = new VectorDeal();
        due("27 on an empty board", empty.storm(5, 500, 0) + empty.storm(5, 500, 1) + empty.storm(5, 500, 2) + empty.storm(5, 500, 3), 0);
    }

    /** 27: n (0 .. 500), a seed (0 .. 9,999) ..: NONE if one can't be, or for another what. */
    private static void stormOfWrongNumbers() {
        VectorDeal x = Check.made("cpus 1;device a single;", "start a;");
        int[] seeds = {LEAST, -1, 0, 1, 9_998, 9_999, 10_000, 10_006, 10_007, GREATEST};
        int[] lengths = {LEAST, -1, 0, 1, 499, 500, 501, 1000, GREATEST};
        int[] whats = {LEAST, -1, 0, 1, 2, 3, 4, 5, GREATEST};
        for (int seed : seeds) {
            for (int n : lengths) {
                for (int what : whats) {
                    boolean is = seed >= 0 && seed <= 9_999 && n >= 0 && n <= 500 && what >= 0 && what <= 3;
                    due("27 storm " + seed + " " + n + " " + what, x.storm(seed, n, what) == NONE ? 0 : 1, is ? 1 : 0);
                }
            }
        }
    }

    /** STORM: a seed becomes its 137-fold and 71 more, modulo 10,007; modulo 4: 0 is a TICK; else .. the one that is RAISED. */
    private static void stormIsItsRaisesAndTicks() {
        String board = "cpus 3;vectors 16;off 2;device x single;device a single on 0;device g group 4;device m managed 3;"
                + "device o managed 1 on 2;device b single on 1;";
        String orders = "start a;start g;start m;start o;start b;move a 0 to 1;late a 0;raise g 1;raise o 0;";
        for (int seed : new int[] {0, 1, 73, 4711, 9_999}) {
            VectorDeal asked = Check.made(board, orders);
            VectorDeal done = Check.made(board, orders);
            int draw = seed;
            int most = 0;
            for (int n = 1; n <= 500; n++) {
                draw = (137 * draw + 71) % 10_007;
                if (draw % 4 == 0) {
                    done.tick(1);
                } else {
                    draw = (137 * draw + 71) % 10_007;
                    raiseLine(done, draw % 10);
                }
                most = Math.max(most, done.about(13));
                if (n <= 40 || n == 500) {
                    due("27 delivered by " + seed + " " + n, asked.storm(seed, n, 0), done.about(7));
                    due("27 merged by " + seed + " " + n, asked.storm(seed, n, 1), done.about(8));
                    due("27 the most by " + seed + " " + n, asked.storm(seed, n, 2), most);
                    due("27 yet by " + seed + " " + n, asked.storm(seed, n, 3), done.about(13));
                }
            }
            CHECK.same("27 nothing is done", Check.whole(asked), Check.whole(Check.made(board, orders)));
        }
    }

    /** The LINES of all that is STARTED: a 0, g 0 .. 3, m 0 .. 2, o 0, b 0. */
    private static void raiseLine(VectorDeal x, int number) {
        int[] devices = {1, 2, 2, 2, 2, 3, 3, 3, 4, 5};
        int[] lines = {0, 0, 1, 2, 3, 0, 1, 2, 0, 0};
        x.raise(devices[number], lines[number], false);
    }

    /** 28: How many TICKS until nothing is PENDING at ONLINE CPUS, by TICKS alone. */
    private static void quietByTicksAlone() {
        due("28 an empty board", new VectorDeal().quiet(), 0);
        due("28 none online", Check.made("cpus 1;off 0;device m managed 1;", "start m;raise m 0;").quiet(), 0);
        VectorDeal x = Check.made("cpus 2;vectors 32;off 1;device a group 8;device b group 8;device c group 8;device d group 8;"
                + "device m managed 1 on 1;");
        Check.orders(x, "start a;start b;start c;start d;");
        for (int d = 0; d < 4; d++) {
            for (int l = 0; l < 8; l++) {
                due("28 so many", x.quiet(), 8 * d + l);
                x.raise(d, l, false);
            }
        }
        due("28 all of a row", x.quiet(), 32);
        x.start(4);
        x.raise(4, 0, false);
        due("28 what waits does not count", x.quiet() * 10 + x.line(4, 0, 5), 321);
        x.tick(31);
        due("28 one more", x.quiet(), 1);
        x.tick(1);
        due("28 none", x.quiet(), 0);
        x.plug(1);
        due("28 it pends now", x.quiet(), 1);
        Check.orders(x, "raise a 0;raise a 1;raise b 0;");
        idle(x, "28 the longest row", () -> x.quiet(), 3);
    }

    /** 29: NONE if there is none such. */
    private static void nearestOfNone() {
        due("29 no devices", new VectorDeal().nearest(), NONE);
        due("29 no groups", Check.made("device a single;device m managed 8;").nearest(), NONE);
        due("29 all are started", Check.made("device g group 2;device h group 8;", "start g;start h;").nearest(), NONE);
        due("29 none has a block", Check.made("vectors 8;kept 0 2 4 6;device g group 2;device h group 4;"
                + "device i group 8;").nearest(), NONE);
        due("29 none is online", Check.made("cpus 1;off 0;device g group 2;").nearest(), NONE);
        due("29 its set does not count", Check.made("cpus 2;off 0;device g group 2 on 0;").nearest(), 0);
        due("29 a promised one counts", Check.made("device a single;device g group 2;", "claim g;").nearest(), 1);
    }

    /** 29: the DEVICE of which clear() tells the fewest for its size, of like ones the first. */
    private static void nearestOfLikeOnes() {
        VectorDeal x = Check.made("cpus 1;vectors 8;kept 7;device e group 8;device p group 4;device q group 4;device a single;"
                + "device b single;device r group 2;device s group 2;");
        due("29 e has none, p is the first", x.nearest(), 1);
        x.start(3);
        due("29 four must lose one, two none", x.nearest(), 5);
        x.start(5);
        due("29 the next of like ones", x.nearest(), 6);
        Check.orders(x, "start s;");
        // a - r r s s - K
        due("29 none is left", x.nearest(), NONE);
        Check.orders(x, "stop s;");
        due("29 s", x.nearest(), 6);
        Check.orders(x, "stop r;start b;");
        // a b - - - - - K: four must lose two, r and s none
        due("29 by the fewest", x.clear(4, 0) * 10 + x.nearest(), 25);
        StringBuilder ten = new StringBuilder("vectors 8;");
        for (char c = 'a'; c < 'j'; c++) {
            ten.append("device ").append(c).append(" single;");
        }
        VectorDeal last = Check.made(ten + "device j group 8;");
        due("29 the tenth", last.nearest(), 9);
        last.start(9);
        due("29 none behind it", last.nearest(), NONE);
        Check.board(last, "device k single;");
        due("29 no groups of an earlier board", last.nearest(), NONE);
        Check.board(last, "");
        due("29 nor of two", last.nearest(), NONE);
    }

    /** 30: The k-th latest (0 the latest; 40 are kept). */
    private static void logKeeps40() {
        VectorDeal x = Check.made("cpus 1;vectors 8;device g group 8;", "start g;");
        for (int n = 1; n <= 85; n++) {
            x.raise(0, n % 8, false);
            x.tick(1);
            int kept = Math.min(n, 40);
            due("30 the latest of " + n, x.log(0, 1), n % 8);
            due("30 the oldest of " + n, x.log(kept - 1, 1), (n - kept + 1) % 8);
            due("30 none behind it", x.log(kept, 0), NONE);
        }
        for (int k = 0; k < 40; k++) {
            due("30 the latest but " + k, x.log(k, 1), (85 - k) % 8);
        }
        for (int n = 0; n < 8; n++) {
            x.undo();
        }
        due("30 taken back", x.log(0, 1) * 10 + x.log(39, 1), 81 % 8 * 10 + (81 - 39) % 8);
        x.redo();
        x.redo();
        due("30 done again", x.log(0, 1), 82 % 8);
        // more than 40 at once
        VectorDeal y = Check.made("cpus 8;vectors 8;device a group 8 on 7;device b group 8 on 6;device c group 8 on 5;"
                + "device d group 8 on 4;device e group 8 on 3;device f group 8 on 2;",
                "start a;start b;start c;start d;start e;start f;");
        for (int d = 0; d < 6; d++) {
            for (int l = 0; l < 8; l++) {
                y.raise(d, l, false);
            }
        }
        due("30 so many", y.tick(8), 48);
        due("30 the latest is of the last cpu", y.log(0, 0) * 1000 + y.log(0, 1) * 100 + y.log(0, 2) * 10 + y.log(0, 3), 70);
        due("30 the 40th", y.log(39, 0) * 1000 + y.log(39, 1) * 100 + y.log(39, 2) * 10 + y.log(39, 3), 3646);
        due("30 none behind it", y.log(40, 0), NONE);
    }

    /** 30: its DEVICE, LINE, CPU, VECTOR, 1 if by an OLD one: from the first VECTOR to the last. */
    private static void logTellsAll() {
        VectorDeal x = Check.made("cpus 8;vectors 32;device z single on 7;device g group 8;device h group 8 on 7;",
                "start h;start g;raise g 0;raise g 1;raise h 0;tick 2;");
        // the least LINE of DEVICE 1 is at VECTOR 0 of CPU 0
        due("30 g 0", entry(x, 0), 1_000_000);
        due("30 h 0, and g 1 ahead of it", entry(x, 1) * 10 + entry(x, 2), 2_007_000 * 10 + 1_010_010);
        Check.orders(x, "move g 0 to 1;late g 0;tick 1;");
        due("30 by an old one at 0", entry(x, 0), 1_000_001);
    }

    /** DEVICE, LINE, CPU in two digits, VECTOR in two, and 1 if by an OLD one. */
    private static int entry(VectorDeal x, int k) {
        return x.log(k, 0) * 1_000_000 + x.log(k, 1) * 10_000 + x.log(k, 2) * 1000 + x.log(k, 3) * 10 + x.log(k, 4);
    }

    /** 30: NONE if there is none such, or for another what. */
    private static void logOfNone() {
        VectorDeal x = Check.made("cpus 1;vectors 8;device a single;", "start a;raise a 0;tick 1;raise a 0;tick 1;");
        for (int k : ODD) {
            for (int what : ODD) {
                boolean is = (k == 0 || k == 1) && what >= 0 && what <= 4;
                due("30 log " + k + " " + what, x.log(k, what), is ? 0 : NONE);
            }
        }
        due("30 of nothing", new VectorDeal().log(0, 0), NONE);
        x.stop(0);
        due("30 it stays when it stops", x.log(1, 0), 0);
    }

    /** 31: whose NAME begins with the first so many letters (1 .. 7) of that of a DEVICE (with all of it, if it has not so many). */
    private static void alikeByLetters() {
        VectorDeal x = Check.made("cpus 8;device abcdefg single;device abcdefh single;device abcdef single;device abc single;"
                + "device a single;device b single;device ba single;device zzzzzzz single;");
        for (int d = 0; d < 8; d++) {
            x.start(d);
            x.raise(d, 0, false);
        }
        due("31 delivered", x.tick(1), 8);
        int[][] wants = {{5, 4, 4, 3, 3, 3, 1}, {5, 4, 4, 3, 3, 3, 1}, {5, 4, 4, 3, 3, 3, 3}, {5, 4, 4, 4, 4, 4, 4},
            {5, 5, 5, 5, 5, 5, 5}, {2, 2, 2, 2, 2, 2, 2}, {2, 1, 1, 1, 1, 1, 1}, {1, 1, 1, 1, 1, 1, 1}};
        for (int d = 0; d < 8; d++) {
            for (int letters = 1; letters <= 7; letters++) {
                due("31 alike " + d + " " + letters, x.alike(d, letters), wants[d][letters - 1]);
            }
        }
        x.stop(0);
        due("31 stopped or not", x.alike(0, 7), 1);
        for (int n = 0; n < 39; n++) {
            x.raise(5, 0, false);
            x.tick(1);
        }
        due("31 of those kept, 39 of b and the last of the others", x.alike(5, 1), 39);
        due("31 the last of the others", x.alike(7, 1), 1);
        x.raise(5, 0, false);
        x.tick(1);
        due("31 all are of b", x.alike(5, 1) * 10 + x.alike(7, 1), 400);
    }

    /** 31: NONE if one can't be. */
    private static void alikeOfNone() {
        VectorDeal x = Check.made("device a single;device b single;");
        for (int device : ODD) {
            for (int letters : ODD) {
                boolean is = (device == 0 || device == 1) && letters >= 1 && letters <= 7;
                due("31 alike " + device + " " + letters, x.alike(device, letters), is ? 0 : NONE);
            }
        }
        due("31 no device", new VectorDeal().alike(0, 1), NONE);
    }

    /** 32: 0 always. */
    private static void lawIsKept() {
        VectorDeal x = Check.made("cpus 4;vectors 8;kept 0;off 3;device a single;device g group 2;device m managed 2;"
                + "device o managed 5 on 3 2;device h group 4 on 0;");
        String steps = "start a|start g|start m|start o|start h|raise a 0|move a 0 to 0 1 2|late a 0|move g 1 to 0 1 2 3|move m 1 to 3|"
                + "plug 3|move m 1 to 3|late m 1|raise m 1|"
                + "raise g 0|tick 1|unplug 0|tick 2|unplug 1|raise o 1|unplug 2|unplug 3|plug 0|stop o|unplug 3|plug 1|plug 2|stop g|"
                + "stop m|stop a|stop h";
        for (String step : steps.split("\\|")) {
            Check.orders(x, step + ";");
            due("32 behind " + step, x.law(), 0);
        }
        while (x.undo()) {
            due("32 undone", x.law(), 0);
        }
        while (x.redo()) {
            due("32 redone", x.law(), 0);
        }
        due("32 at first", new VectorDeal().law(), 0);
    }

    /**
     * 33: a BOX 0, 1: LINES that are HELD; NONE if there is none such. 34: NONE, doing nothing, if nothing was, or
     * there is no such BOX.
     */
    private static void imageOfNone() {
        VectorDeal x = Check.made("cpus 2;vectors 16;off 1;device g group 8;device m managed 8;device a single;", "start a;");
        for (int box : ODD) {
            if (box != 0 && box != 1) {
                idle(x, "33 image " + box, () -> x.image(box), NONE);
            }
            idle(x, "34 back " + box, () -> x.back(box), NONE);
        }
        idle(x, "33 one is held", () -> x.image(0), 1);
        idle(x, "34 nothing was in the other", () -> x.back(1), NONE);
        x.start(0);
        idle(x, "33 nine are held", () -> x.image(1), 9);
        x.start(1);
        // four of its queues are shut
        idle(x, "33 shut ones are not", () -> x.image(0), 13);
        x.plug(1);
        idle(x, "33 now they are", () -> x.image(0), 17);
        x.move(2, 0, 2);
        idle(x, "33 old ones are not", () -> x.image(0), 17);
        due("33 nothing is held", new VectorDeal().image(1), 0);
        VectorDeal y = Check.made("cpus 8;vectors 32;device m managed 8;device g group 8 on 7;", "start m;start g;");
        idle(y, "33 on the last cpu, too", () -> y.image(1), 16);
    }

    /** 34: All is as it was kept (no ACTS are kept then): likewise. */
    private static void backTakesAll() {
        String board = "cpus 3;vectors 8;off 2;device a single;device g group 2;device m managed 3;device z single;";
        VectorDeal x = Check.made(board, "start a;start m;raise a 0;raise a 0;tick 1;raise m 2;raise m 0;move a 0 to 1;late a 0;claim z;");
        String kept = Check.state(x);
        due("33 held", x.image(0), 3);
        Check.orders(x, "start g;plug 2;tick 3;raise g 1;stop a;start z;unplug 0;");
        String later = Check.state(x);
        due("33 held now, but queue 0", x.image(1), 5);
        x.tick(1);
        x.undo();
        due("34 back", x.back(0), 3);
        CHECK.same("34 as it was", Check.state(x), kept);
        due("34 no acts", x.about(10) + x.about(11), 0);
        CHECK.due("34 no undo", x.undo(), false);
        CHECK.due("34 no redo", x.redo(), false);
        x.tick(5);
        due("34 the other", x.back(1), 5);
        CHECK.same("34 as the other was", Check.state(x), later);
        due("34 again", x.back(0), 3);
        CHECK.same("34 a box stays as it is", Check.state(x), kept);
        x.tick(5);
        due("34 and again", x.back(0), 3);
        CHECK.same("34 though things went on", Check.state(x), kept);
        x.stop(0);
        due("33 another one in its stead", x.image(0), 2);
        String other = Check.state(x);
        x.tick(2);
        due("34 that one", x.back(0), 2);
        CHECK.same("34 as that was", Check.state(x), other);
        x.stop(2);
        CHECK.due("34 acts go on", x.undo(), true);
        CHECK.same("34 to what was brought back", Check.state(x), other);
        CHECK.due("34 not beyond it", x.undo(), false);
    }

    /** 35: NONE for another what. */
    private static void aboutOfNone() {
        VectorDeal x = new VectorDeal();
        for (int what : ODD) {
            due("35 about " + what, x.about(what) == NONE ? 0 : 1, what >= 0 && what <= 13 ? 1 : 0);
        }
        for (int what = 0; what <= 13; what++) {
            due("35 is one " + what, x.about(what) == NONE ? 0 : 1, 1);
        }
    }

    /** 35: each of them, from an empty BOARD to the greatest. */
    private static void aboutFromEmptyOn() {
        int[] empty = {4, 16, 0, 15, 64, 0, 0, 0, 0, 0, 0, 0, 0, 0};
        for (int what = 0; what <= 13; what++) {
            due("35 empty " + what, new VectorDeal().about(what), empty[what]);
        }
        VectorDeal x = Check.made("cpus 8;vectors 32;off 7;device a group 8;device b group 8;device c group 8;device d group 8;"
                + "device e group 8;device f group 8;"
                + "device g group 8;device h group 8;device i group 8;device m managed 8 on 7;");
        due("35 the greatest", x.about(0) * 10_000 + x.about(1) * 100 + x.about(2), 83_210);
        due("35 online", x.about(3), 127);
        due("35 free ones of these", x.about(4), 224);
        for (int d = 0; d < 9; d++) {
            due("35 claim", x.claim(d), 0);
        }
        due("35 promised", x.about(5), 72);
        x.start(9);
        for (int l = 0; l < 8; l++) {
            x.raise(9, l, false);
            x.raise(9, l, false);
        }
        due("35 those that wait", x.about(13), 8);
        due("35 merged", x.about(8), 8);
        x.plug(7);
        due("35 they pend", x.about(13), 8);
        due("35 free with 7", x.about(4), 248);
        x.tick(3);
        due("35 delivered", x.about(7) * 100 + x.about(13), 305);
        x.stop(9);
        due("35 dropped", x.about(9), 5);
        due("35 free", x.about(4), 256);
        due("35 ticks", x.about(6), 3);
        due("35 to undo", x.about(10), 16);
        x.undo();
        due("35 to redo", x.about(10) * 100 + x.about(11), 1501);
        x.feed(0, 0, 0, 0, 0);
        due("35 tape", x.about(12), 20);
    }

    /** 26: (Nothing is done; so below.) */
    private static void nothingIsDoneByAsking() {
        VectorDeal x = Check.made("cpus 3;vectors 8;kept 0;off 2;device a single;device g group 2;device m managed 3;device h group 4;",
                "start a;start m;raise a 0;raise m 2;move a 0 to 1;late a 0;tick 1;raise a 0;");
        x.tick(1);
        x.undo();
        String before = Check.whole(x);
        for (int a = -1; a <= 8; a++) {
            x.room(a);
            x.balance();
            x.quiet();
            x.nearest();
            x.law();
            for (int b = -1; b <= 8; b++) {
                x.clear(a, b);
                x.without(a, b);
                x.spread(a, b);
                x.alike(a, b);
                x.storm(a + 1, 50 * (b + 1), (a + b + 2) % 4);
            }
        }
        CHECK.same("asking", Check.whole(x), before);
        CHECK.due("redo is there", x.redo(), true);
    }
}
