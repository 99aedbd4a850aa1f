/** Promises 1 to 7: a new object, the TAPE, BOARDS, ORDERS, FAULTS, what was REFUSED. */
public final class TextTest {
    private static final Check CHECK = new Check("TextTest");
    private static final int NONE = VectorDeal.NONE;

    public static void main(String[] args) {
        promise1NewObject();
        promise2Feed();
        promise3End();
        promise4Board();
        promise4BoardStartsAnew();
        promise4FaultLeavesAll();
        promise4FaultLeavesWhatCallsTold();
        promise5Orders();
        promise5OrdersOfEveryKind();
        promise6FaultsOfTokens();
        promise6FaultsOfBoards();
        promise6FaultsOfNames();
        promise6FaultsOfOrders();
        promise6FaultAsked();
        promise7Refused();
        CHECK.finish();
    }

    private static void due(String what, long got, long want) {
        CHECK.due(what, got, want);
    }

    private static void promise1NewObject() {
        VectorDeal x = new VectorDeal();
        due("1 cpus", x.about(0), 4);
        due("1 vectors", x.about(1), 16);
        due("1 devices", x.about(2), 0);
        due("1 online", x.about(3), 15);
        due("1 free", x.about(4), 64);
        for (int what = 5; what <= 13; what++) {
            due("1 about " + what, x.about(what), 0);
        }
        due("1 fault", x.fault(0), 0);
        due("1 place", x.fault(1), NONE);
        due("1 refused", x.refused(), 0);
        due("1 undo", x.undo() ? 1 : 0, 0);
        due("1 redo", x.redo() ? 1 : 0, 0);
        due("1 back", x.back(0), NONE);
        due("1 NONE", VectorDeal.NONE, -1);
    }

    private static void promise2Feed() {
        VectorDeal x = new VectorDeal();
        for (int i = 1; i <= 40; i++) {
            due("2 feed " + i, x.feed(0x20202020, 0x20202020, 0x0A0A0A0A, 0x20202020, 0x20202020), 20 * i);
        }
        due("2 feed too much", x.feed(0, 0, 0, 0, 0), NONE);
        due("2 nothing came", x.about(12), 800);
        due("2 all blanks", x.board(), 0);
        due("2 empty then", x.about(12), 0);
        for (int i = 0; i < 39; i++) {
            x.feed(0x20202020, 0x20202020, 0x20202020, 0x20202020, 0x20202020);
        }
        x.feed(0x20202020, 0x20202020, 0x20202020, 0x20202020, 0x20202020);
        due("2 end at 781", x.end(781), 781);
        due("2 feed beyond 800", x.feed(0, 0, 0, 0, 0), NONE);
        due("2 still 781", x.about(12), 781);
        due("2 end at 780", x.end(780), 780);
        due("2 feed to 800", x.feed(0x20202020, 0x20202020, 0x20202020, 0x20202020, 0x20202041), 800);
        due("2 last byte is no token", x.board(), NONE);
        due("2 at 799", x.fault(1), 799);
        // the highest byte comes first: "cpus 5;" and blanks
        x.feed(0x63707573, 0x20353B20, 0x20202020, 0x20202020, 0x20202020);
        due("2 order of bytes", x.board(), 0);
        due("2 cpus as fed", x.about(0), 5);
    }

    private static void promise3End() {
        VectorDeal x = new VectorDeal();
        due("3 end of nothing", x.end(0), 0);
        due("3 none there", x.end(1), NONE);
        x.feed(0x63707573, 0x20333B41, 0, 0, 0);
        due("3 below 0", x.end(-1), NONE);
        due("3 too many", x.end(21), NONE);
        due("3 nothing done", x.about(12), 20);
        due("3 all", x.end(20), 20);
        due("3 fewer", x.end(7), 7);
        due("3 has them", x.about(12), 7);
        due("3 not more again", x.end(8), NONE);
        due("3 board of the first", x.board(), 0);
        due("3 cpus", x.about(0), 3);
        // what stood behind the end is no part of a TOKEN that the end cuts
        cut("cpus 22;", 6, 2, 6);
        cut("cpus 2x;", 6, 2, 6);
        cut("cpus 1234;", 8, 4, 5);
        cut("abcdefghi", 8, 2, 0);
        cut("cpus 2 ;", 7, 2, 7);
        due("3 least", x.end(Integer.MIN_VALUE), NONE);
        due("3 greatest", x.end(Integer.MAX_VALUE), NONE);
    }

    private static void cut(String text, int n, int fault, int place) {
        VectorDeal x = new VectorDeal();
        Check.tape(x, text);
        due("3 cut " + text, x.end(n), n);
        due("3 board of " + text + " cut", x.board(), NONE);
        due("3 fault of " + text + " cut", x.fault(0) * 1000 + x.fault(1), fault * 1000 + place);
    }

    private static void promise4Board() {
        VectorDeal x = new VectorDeal();
        due("4 empty", Check.board(x, ""), 0);
        due("4 text", Check.board(x, "vectors 32;cpus 8;kept 0 31;kept 5;off 7 0;off 3;\n"
                + "device a single;device bcd group 8 on 1 2;device sevenxx managed 3 on 0 2 4 6;"), 3);
        due("4 cpus", x.about(0), 8);
        due("4 vectors", x.about(1), 32);
        due("4 online", x.about(3), 255 - 128 - 8 - 1);
        due("4 free", x.about(4), 5 * 29);
        due("4 kept 0", x.vector(7, 0, 0), 1);
        due("4 kept 31", x.vector(0, 31, 0), 1);
        due("4 kept 5", x.vector(4, 5, 0), 1);
        due("4 not kept", x.vector(4, 6, 0), 0);
        due("4 a", x.device(0, 0), 1);
        due("4 a set", x.device(0, 2), 255);
        due("4 bcd", x.device(1, 0), 2);
        due("4 bcd lines", x.device(1, 1), 8);
        due("4 bcd set", x.device(1, 2), 6);
        due("4 managed", x.device(2, 0), 3);
        due("4 managed lines", x.device(2, 1), 3);
        due("4 managed set", x.device(2, 2), 0x55);
        due("4 no blanks", Check.board(x, "cpus2;vectors08;kept 007;device a group2 on0 01;device b managed1;"), 2);
        due("4 leading noughts", x.vector(0, 7, 0), 1);
        due("4 set of a", x.device(0, 2), 3);
        due("4 least", Check.board(x, "cpus 1;vectors 8;"), 0);
        due("4 all off", Check.board(x, "cpus 2;off 0 1;"), 0);
        due("4 none online", x.about(3), 0);
        due("4 ten", Check.board(x, "device a single;device b single;device c single;device d single;device e single;"
                + "device f single;device g single;device h single;device i single;device j single;"), 10);
        due("4 the tenth", x.device(9, 0), 1);
        due("4 no eleventh", x.device(10, 0), NONE);
    }

    private static void promise4BoardStartsAnew() {
        VectorDeal x = Check.made("cpus 2;device a single;device b single;", "start a;raise a 0;raise a 0;tick 2;claim b;unplug 1;");
        x.image(0);
        x.image(1);
        x.raise(0, 0, false);
        x.stop(0);
        due("4 dropped before", x.about(9), 1);
        x.tick(1);
        x.undo();
        due("4 anew", Check.board(x, "cpus 2;device a single;device b single;"), 2);
        due("4 not started", x.device(0, 3), 0);
        due("4 not promised", x.device(1, 4), 0);
        due("4 online again", x.about(3), 3);
        due("4 box 0 empty", x.back(0), NONE);
        due("4 box 1 empty", x.back(1), NONE);
        for (int what = 5; what <= 13; what++) {
            due("4 anew about " + what, x.about(what), 0);
        }
        for (int what = 5; what <= 7; what++) {
            due("4 anew device " + what, x.device(0, what), 0);
        }
        due("4 handled", x.cpu(0, 6), 0);
        due("4 log", x.log(0, 0), NONE);
        due("4 no undo", x.undo() ? 1 : 0, 0);
        due("4 no redo", x.redo() ? 1 : 0, 0);
    }

    private static void promise4FaultLeavesAll() {
        VectorDeal x = Check.made("cpus 2;device a single;", "start a;tick 3;");
        x.image(0);
        x.raise(0, 0, false);
        due("4 fault", Check.board(x, "cpus 3;device b group 2;kept 99;"), NONE);
        due("4 cpus stay", x.about(0), 2);
        due("4 devices stay", x.about(2), 1);
        due("4 kind stays", x.device(0, 0), 1);
        due("4 started stays", x.device(0, 3), 1);
        due("4 ticks stay", x.about(6), 3);
        due("4 acts stay", x.about(10), 2);
        due("4 tape empty", x.about(12), 0);
        due("4 box stays", x.back(0), 1);
        due("4 name stays", Check.orders(x, "stop a;"), 1);
    }

    private static void promise4FaultLeavesWhatCallsTold() {
        VectorDeal x = Check.made("cpus 2;device a single;device b single;", "start a;raise a 0;tick 1;claim b;");
        x.raise(0, 0, false);
        x.undo();
        due("4 refused before", Check.orders(x, "start a;"), 0);
        due("4 fault again", Check.board(x, "vectors 7;"), NONE);
        due("4 its fault", x.fault(0), 4);
        due("4 refused stays", x.refused(), 4);
        due("4 log stays", x.log(0, 0), 0);
        due("4 handled stays", x.cpu(0, 6), 1);
        due("4 delivered stays", x.device(0, 5), 1);
        due("4 promise stays", x.about(5), 1);
        due("4 redo stays", x.redo() ? 1 : 0, 1);
        due("4 done again", x.about(13), 1);
    }

    private static void promise5Orders() {
        VectorDeal x = Check.made("cpus 2;device a single;device b single;");
        due("5 empty", Check.orders(x, " \n "), 0);
        due("5 no act", x.about(10), 0);
        due("5 all", Check.orders(x, "start a;start b;raise b 0;tick 100;"), 4);
        due("5 one act", x.about(10), 1);
        due("5 ticks", x.about(6), 100);
        due("5 until refused", Check.orders(x, "raise a 0;start a;raise b 0;"), 1);
        due("5 by 4", x.refused(), 4);
        due("5 pending", x.about(13), 1);
        due("5 two acts", x.about(10), 2);
        due("5 none done", Check.orders(x, "start a;raise b 0;"), 0);
        due("5 no act of none", x.about(10), 2);
        due("5 fault", Check.orders(x, "raise b 0;raise c 0;"), NONE);
        due("5 nothing done", x.about(13), 1);
        due("5 no act of fault", x.about(10), 2);
        due("5 tape empty", x.about(12), 0);
        x.undo();
        due("5 one undo for all", x.about(13), 0);
        x.undo();
        due("5 all taken back", x.device(0, 3) + x.device(1, 3) + x.about(6), 0);
        x.redo();
        due("5 all done again", x.device(0, 3) + x.device(1, 3) + x.about(6), 102);
        StringBuilder many = new StringBuilder();
        for (int i = 0; i < 133; i++) {
            many.append("tick1;");
        }
        due("5 as many as fit", Check.orders(x, many.toString()), 133);
        due("5 so many ticks", x.about(6), 233);
    }

    private static void promise5OrdersOfEveryKind() {
        VectorDeal x = Check.made("cpus 3;vectors 8;off 2;device a single on 0;device b single;device q managed 1 on 1;");
        due("5 kinds", Check.orders(x, "start a;claim b;start q;raise a 0;move a 0 to 1 2;late a 0;raise a 0;tick 1;plug 2;unplug 1;stop q;"), 11);
        due("5 kinds refused", x.refused(), 0);
        due("5 a merged", x.device(0, 6), 1);
        due("5 a delivered", x.device(0, 5), 2);
        due("5 a has no old", x.line(0, 0, 2), NONE);
        due("5 a is brought to its set", x.line(0, 0, 0), 0);
        due("5 online", x.about(3), 5);
        due("5 b promised", x.device(1, 4), 1);
        due("5 q stopped", x.device(2, 3), 0);
        // a REFUSED unplug in the middle must leave what came ahead of it and nothing of itself
        VectorDeal y = Check.made("cpus 2;vectors 8;kept 0 1 2 3 4 5;device a single on 0;device b group 2 on 0;device c group 2 on 1;");
        due("5 refused unplug", Check.orders(y, "start c;start b;raise b 1;unplug 0;tick 1;"), 3);
        due("5 by room", y.refused(), 1);
        due("5 still online", y.about(3), 3);
        due("5 still there", y.line(1, 1, 0) * 100 + y.line(1, 1, 1), 7);
        due("5 still pending", y.vector(0, 7, 3), 1);
        due("5 no tick", y.about(6), 0);
        due("5 law", y.law(), 0);
    }

    private static void fault(String text, int fault, int place) {
        fault(new VectorDeal(), text, fault, place);
    }

    private static void fault(VectorDeal x, String text, int fault, int place) {
        due("6 board " + text, Check.board(x, text), fault == 0 ? x.about(2) : NONE);
        due("6 fault of " + text, x.fault(0), fault);
        due("6 place of " + text, x.fault(1), place);
    }

    private static void promise6FaultsOfTokens() {
        fault("#", 1, 0);
        fault("  \n#", 1, 3);
        fault("cpus 2;\t", 1, 7);
        fault("Cpus 2;", 1, 0);
        fault("cpus 2\u00e9;", 1, 6);
        fault("cpus 2\u0000;", 1, 6);
        fault("cpus 1234;", 1, 5);
        fault("kept 0001;", 1, 5);
        fault("cpus 2x;", 1, 5);
        fault("kept 1 2x;", 1, 7);
        fault("abcdefghi", 1, 0);
        fault("device abcdefghi single;", 1, 7);
        fault("device abcdefgh single;", 2, 7);
        fault("abcdefgh", 2, 0);
        fault("cpus -1;", 1, 5);
        // the first by its place: what is no TOKEN stands behind
        fault("cpus cpus #", 2, 5);
        fault("cpus 9 #", 4, 5);
        fault("cpus2;device a1", 2, 14);
        fault("cpus2;deviceasingle;", 1, 6);
        // as many TOKENS, and as long ones, as a TAPE can have
        fault(";".repeat(800), 2, 0);
        fault("9;".repeat(400), 2, 0);
        fault("7".repeat(800), 1, 0);
        fault("a".repeat(800), 1, 0);
        fault(" ".repeat(799) + "a", 2, 799);
        fault("kept" + " 1".repeat(398), 3, 7);
    }

    private static void promise6FaultsOfBoards() {
        fault("", 0, NONE);
        fault("   ", 0, NONE);
        fault(";", 2, 0);
        fault("4;", 2, 0);
        fault("start a;", 2, 0);
        fault("cpus", 2, 4);
        fault("cpus  \n", 2, 7);
        fault("cpus 2", 2, 6);
        fault("cpus ;", 2, 5);
        fault("cpus 0;", 4, 5);
        fault("cpus 9;", 4, 5);
        fault("cpus 2 3;", 2, 7);
        fault("vectors 7;", 4, 8);
        fault("vectors 33;", 4, 8);
        fault("cpus 2;cpus", 3, 7);
        fault("cpus 2;vectors 8;vectors", 3, 17);
        fault("kept 1;cpus 2;", 2, 7);
        fault("off 1;vectors 8;", 2, 6);
        fault("device a single;cpus 2;", 2, 16);
        fault("cpus 2;kept 1;cpus 2;", 2, 14);
        fault("kept;", 2, 4);
        fault("kept 16;", 4, 5);
        fault("kept 15;", 0, NONE);
        fault("vectors 32;kept 31;", 0, NONE);
        fault("vectors 32;kept 32;", 4, 16);
        fault("kept 1 2 1;", 3, 9);
        fault("kept 1;kept 2 1;", 3, 14);
        fault("kept 1 01;", 3, 7);
        fault("off 4;", 4, 4);
        fault("off 1 1;", 3, 6);
        fault("off 1;off 1;", 3, 10);
        fault("off;", 2, 3);
        fault("kept 1 off 1;", 2, 7);
        fault("device a;", 2, 8);
        fault("device a group;", 2, 14);
        fault("device a group 3;", 4, 15);
        fault("device a group 1;", 4, 15);
        fault("device a group 16;", 4, 15);
        fault("device a managed 0;", 4, 17);
        fault("device a managed 9;", 4, 17);
        fault("device a managed 8;", 0, NONE);
        fault("device a single 1;", 2, 16);
        fault("device a single on;", 2, 18);
        fault("device a single on 4;", 4, 19);
        fault("device a single on 1 2 1;", 3, 23);
        fault("device a single on 1;device b single on 1;", 0, NONE);
        fault("device a single on 1 on 2;", 2, 21);
        fault("device a on 1 single;", 2, 9);
    }

    private static void promise6FaultsOfNames() {
        fault("device ;", 2, 7);
        fault("device 1 single;", 2, 7);
        for (String word : ("cpus vectors kept off device single group managed on "
                + "start stop claim raise late move to tick plug unplug").split(" ")) {
            fault("device " + word + " single;", 2, 7);
        }
        fault("device a single;device a single;", 3, 23);
        fault("device abcdefg single;device abcdefg group 2;", 3, 29);
        fault("device abcdefg single;device abcdef group 2;", 0, NONE);
        fault("device ab single;device a single;device b single;", 0, NONE);
        StringBuilder ten = new StringBuilder();
        for (char c = 'a'; c <= 'j'; c++) {
            ten.append("device ").append(c).append(" single;");
        }
        fault(ten + "device", 2, 160);
        fault(ten + "device a single;", 2, 160);
        fault(ten + "kept 1;", 0, NONE);
        fault(ten + "#", 1, 160);
    }

    private static void faultOfOrders(String text, int fault, int place) {
        VectorDeal x = Check.made("cpus 3;device a single;device bb managed 2;");
        int done = Check.orders(x, text);
        due("6 orders " + text, done == NONE ? 1 : 0, fault == 0 ? 0 : 1);
        due("6 fault of " + text, x.fault(0), fault);
        due("6 place of " + text, x.fault(1), place);
        if (fault != 0) {
            due("6 nothing done " + text, x.about(10), 0);
        }
    }

    private static void promise6FaultsOfOrders() {
        faultOfOrders("", 0, NONE);
        faultOfOrders("start a;", 0, NONE);
        faultOfOrders("start", 2, 5);
        faultOfOrders("start a", 2, 7);
        faultOfOrders("start c;", 3, 6);
        faultOfOrders("start b;", 3, 6);
        faultOfOrders("start bb;", 0, NONE);
        faultOfOrders("start bbb;", 3, 6);
        faultOfOrders("start to;", 2, 6);
        faultOfOrders("start cpus;", 2, 6);
        faultOfOrders("start abcdefgh;", 2, 6);
        faultOfOrders("start abcdefghi;", 1, 6);
        faultOfOrders("start 1;", 2, 6);
        faultOfOrders("stop a 1;", 2, 7);
        faultOfOrders("claim c;", 3, 6);
        faultOfOrders("cpus 1;", 2, 0);
        faultOfOrders("a;", 2, 0);
        faultOfOrders("raise a;", 2, 7);
        faultOfOrders("raise a 7;", 0, NONE);
        faultOfOrders("raise a 8;", 4, 8);
        faultOfOrders("late a 8;", 4, 7);
        faultOfOrders("late a 0;", 0, NONE);
        faultOfOrders("move a 0;", 2, 8);
        faultOfOrders("move a 8 to 1;", 4, 7);
        faultOfOrders("move a 0 to;", 2, 11);
        faultOfOrders("move a 0 to 3;", 4, 12);
        faultOfOrders("move a 0 to 1 1;", 3, 14);
        faultOfOrders("move a 0 to 0 1 2;move a 0 to 0 1 2;", 0, NONE);
        faultOfOrders("move a 0 on 1;", 2, 9);
        faultOfOrders("tick 0;", 4, 5);
        faultOfOrders("tick 101;", 4, 5);
        faultOfOrders("tick 100;", 0, NONE);
        faultOfOrders("tick;", 2, 4);
        faultOfOrders("plug 3;", 4, 5);
        faultOfOrders("unplug 3;", 4, 7);
        faultOfOrders("unplug 2;plug 2;", 0, NONE);
        faultOfOrders("plug 1 2;", 2, 7);
        faultOfOrders("start a;start a;start c;", 3, 22);
    }

    private static void promise6FaultAsked() {
        VectorDeal x = new VectorDeal();
        Check.board(x, "cpus 9;");
        due("6 other what", x.fault(2), NONE);
        due("6 what below 0", x.fault(-1), NONE);
        due("6 stays", x.fault(0), 4);
        Check.orders(x, "tick 1;");
        due("6 of the latest", x.fault(0), 0);
        due("6 place of none", x.fault(1), NONE);
        Check.orders(x, "tick 1");
        due("6 of orders", x.fault(0), 2);
        x.undo();
        due("6 undo leaves it", x.fault(1), 6);
    }

    private static void refusedBy(VectorDeal x, String text, int done, int refused) {
        due("7 done of " + text, Check.orders(x, text), done);
        due("7 refused " + text, x.refused(), refused);
    }

    private static void promise7Refused() {
        VectorDeal x = Check.made("cpus 2;vectors 8;kept 0 1 2 3 4 5;device a single;device b group 2;device c group 2;"
                + "device d group 2;device m managed 2;");
        due("7 at first", x.refused(), 0);
        refusedBy(x, "stop a;", 0, 4);
        refusedBy(x, "raise a 0;", 0, 4);
        refusedBy(x, "late a 0;", 0, 4);
        refusedBy(x, "move a 0 to 1;", 0, 4);
        refusedBy(x, "claim m;", 0, 4);
        refusedBy(x, "plug 0;", 0, 4);
        refusedBy(x, "claim b;claim b;", 1, 4);
        refusedBy(x, "claim c;claim d;", 1, 2);
        refusedBy(x, "start a;", 0, 2);
        refusedBy(x, "start b;start b;", 1, 4);
        refusedBy(x, "claim b;", 0, 4);
        refusedBy(x, "raise b 2;", 0, 4);
        refusedBy(x, "raise b 1;raise b 1;", 2, 0);
        refusedBy(x, "unplug 1;", 0, 1 + 1);
        refusedBy(x, "start c;start d;", 1, 1);
        refusedBy(x, "start a;", 0, 1);
        refusedBy(x, "stop c;move b 0 to 1;move b 1 to 1;", 2, 3);
        refusedBy(x, "stop b;unplug 1;unplug 1;", 2, 4);
        refusedBy(x, "unplug 0;", 0, 5);
        x.plug(1);
        due("7 other calls leave it", x.refused(), 5);
        Check.orders(x, "unplug");
        due("7 behind a fault", x.refused(), 0);
        refusedBy(x, "stop a;", 0, 4);
        Check.board(x, "#");
        due("7 a board's fault leaves it", x.refused(), 4);
        Check.board(x, "cpus 2;cpus");
        due("7 a second fault leaves it", x.refused(), 4);
        refusedBy(x, "tick 1;", 1, 0);
        Check.board(x, "#");
        due("7 nothing refused stays so", x.refused(), 0);
        refusedBy(x, "stop a;", 0, 4);
        Check.orders(x, "#");
        due("7 behind a fault of orders", x.refused(), 0);
        refusedBy(x, "stop a;", 0, 4);
        Check.orders(x, "");
        due("7 behind empty orders", x.refused(), 0);
        refusedBy(x, "stop a;", 0, 4);
        Check.board(x, "");
        due("7 behind a board", x.refused(), 0);
    }
}
