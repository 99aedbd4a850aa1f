/** Promises 8 to 17: START, STOP, claim(), RAISE, TICKS, MOVE, UNPLUG, PLUG, UNDO, REDO. */
public final class ActsTest {
    private static final Check CHECK = new Check("ActsTest");
    private static final int NONE = VectorDeal.NONE;

    public static void main(String[] args) {
        promise8StartOne();
        promise8StartGroup();
        promise8StartManaged();
        promise8StartRefused();
        promise9Stop();
        promise10Claim();
        promise11Raise();
        promise12Tick();
        promise12Drain();
        promise13MoveOne();
        promise13MoveGroup();
        promise13MoveQueue();
        promise13MoveRefused();
        promise14UnplugOne();
        promise14UnplugGroup();
        promise14UnplugQueue();
        promise14UnplugRefused();
        promise15Plug();
        promise16Undo();
        promise17Redo();
        CHECK.finish();
    }

    private static void due(String what, long got, long want) {
        CHECK.due(what, got, want);
    }

    private static void due(String what, boolean got, boolean want) {
        CHECK.due(what, got, want);
    }

    /** Where a LINE is: its CPU times 100 and its VECTOR; NONE if it is SHUT or not STARTED. */
    private static int at(VectorDeal x, int device, int line) {
        return x.line(device, line, 0) == NONE ? NONE : x.line(device, line, 0) * 100 + x.line(device, line, 1);
    }

    private static int oldAt(VectorDeal x, int device, int line) {
        return x.line(device, line, 2) == NONE ? NONE : x.line(device, line, 2) * 100 + x.line(device, line, 3);
    }

    private static void promise8StartOne() {
        VectorDeal x = Check.made("cpus 3;vectors 8;kept 0;off 0;device a single;device b single;device c single on 1;"
                + "device d single on 0;");
        due("8 a", x.start(0), 0);
        due("8 the least of like ones, the least free one", at(x, 0, 0), 101);
        due("8 b", x.start(1), 0);
        due("8 the least loaded", at(x, 1, 0), 201);
        due("8 c", x.start(2), 0);
        due("8 its set alone", at(x, 2, 0), 102);
        due("8 none of its set is online", x.start(3), 1);
        due("8 started", x.start(0), 4);
        due("8 no device", x.start(4), NONE);
        due("8 below 0", x.start(-1), NONE);
        due("8 held", x.vector(1, 2, 0), 2);
        due("8 acts", x.about(10), 3);
        x.stop(0);
        due("8 again", x.start(0), 0);
        due("8 like loads, the least cpu", at(x, 0, 0), 101);
    }

    private static void promise8StartGroup() {
        VectorDeal x = Check.made("cpus 2;vectors 12;kept 1;device a group 4;device b group 8;device c group 8;device d group 2;"
                + "device e group 2;");
        due("8 group", x.start(0), 0);
        due("8 an aligned block", at(x, 0, 0), 4);
        due("8 one behind another", at(x, 0, 3), 7);
        due("8 no aligned eight", x.start(1), 1);
        due("8 two", x.start(3), 0);
        due("8 least loaded that has room", at(x, 3, 0), 102);
        due("8 two more", x.start(4), 0);
        due("8 next block", at(x, 4, 1), 105);
        due("8 line's owner", x.vector(1, 5, 1) * 10 + x.vector(1, 5, 2), 41);
    }

    private static void promise8StartManaged() {
        // 4 queues on 3 cpus: queue 3 goes round to the first one
        VectorDeal x = Check.made("cpus 4;vectors 8;off 2;device s single on 3;device m managed 4 on 0 2 3;device n managed 2;");
        due("8 single", x.start(0), 0);
        due("8 managed", x.start(1), 0);
        due("8 queue 0", at(x, 1, 0), 0);
        due("8 queue 1 is shut", at(x, 1, 1), NONE);
        due("8 queue 2", at(x, 1, 2), 301);
        due("8 queue 3", at(x, 1, 3), 1);
        due("8 reserved where it is off", x.vector(2, 0, 0), 4);
        due("8 for queue 1", x.vector(2, 0, 1) * 10 + x.vector(2, 0, 2), 11);
        // 2 queues on 4 cpus: 0 1 and 2 3; loads are 2 0 - 2
        due("8 managed over all", x.start(2), 0);
        due("8 least loaded of 0 1", at(x, 2, 0), 100);
        due("8 the only one online of 2 3", at(x, 2, 1), 302);
        due("8 reserved on 0", x.vector(0, 2, 0), 4);
        due("8 reserved on 2", x.vector(2, 1, 0), 4);
        due("8 reserved ones", x.cpu(2, 2), 2);
        due("8 loads", x.cpu(0, 0) * 1000 + x.cpu(1, 0) * 100 + x.cpu(2, 0) * 10 + x.cpu(3, 0), 2103);
        // a queue that is held counts for the load of the next
        VectorDeal y = Check.made("cpus 2;vectors 8;device m managed 3 on 0;device n managed 1;");
        y.start(0);
        y.start(1);
        due("8 load of queues", at(y, 1, 0), 100);
    }

    private static void promise8StartRefused() {
        VectorDeal x = Check.made("cpus 2;vectors 8;kept 0 1 2 3 4 5;device m managed 3 on 1;device n managed 2;device g group 2;"
                + "device s single;device t single;device u single;");
        due("8 no room for all queues", x.start(0), 1);
        due("8 nothing reserved", x.cpu(1, 2), 0);
        due("8 not started", x.device(0, 3), 0);
        due("8 no act", x.about(10), 0);
        x.claim(2);
        x.claim(3);
        due("8 promised", x.about(5), 3);
        due("8 behind it too few", x.start(1), 2);
        due("8 nothing happens", x.cpu(0, 1) + x.cpu(1, 1), 4);
        due("8 the last one that is not promised", x.start(4), 0);
        due("8 none left", x.start(5), 2);
        due("8 no room goes ahead", x.start(0), 1);
        due("8 its own promise is gone", x.start(2), 0);
        due("8 no more promised", x.device(2, 4), 0);
        due("8 promise left", x.about(5), 1);
        due("8 own promise again", x.start(3), 0);
        due("8 full", x.start(5), 1);
        // a move makes free ones fewer than what is promised: then even one's own promise does not help
        VectorDeal y = Check.made("cpus 2;vectors 8;kept 0 1 2 3 4 5;device a single;device b group 2;device c single;device m managed 1 on 0;");
        y.start(0);
        y.claim(1);
        y.claim(2);
        due("8 a move is not refused by it", y.move(0, 0, 2), 0);
        due("8 free", y.about(4), 2);
        due("8 promised ones", y.about(5), 3);
        due("8 refused with its own promise", y.start(2), 2);
        due("8 promise stays", y.device(2, 4), 1);
        due("8 room goes ahead", y.start(1), 1);
    }

    private static void promise9Stop() {
        VectorDeal x = Check.made("cpus 2;vectors 8;device a single;device g group 2;device m managed 2;device o managed 1 on 1;",
                "start a;start g;start m;start o;raise a 0;move a 0 to 1;raise a 0;raise g 1;");
        due("9 not there", x.stop(4), NONE);
        due("9 below 0", x.stop(-1), NONE);
        due("9 two dropped", x.stop(0), 2);
        due("9 of the device", x.device(0, 7), 2);
        due("9 again", x.stop(0), NONE);
        due("9 free is what was held and old", x.about(4), 16 - 2 - 2 - 1);
        due("9 nothing pends of it", x.about(13), 1);
        due("9 none dropped", x.stop(2), 0);
        due("9 no more reserved", x.cpu(0, 2) + x.cpu(1, 2), 0);
        x.unplug(1);
        x.raise(3, 0, false);
        due("9 waits", x.line(3, 0, 5), 1);
        due("9 what waits is dropped", x.stop(3), 1);
        due("9 dropped", x.about(9), 3);
        due("9 not started", x.device(3, 3), 0);
        due("9 free off line too", x.cpu(1, 1), 8);
        due("9 law", x.law(), 0);
    }

    private static void promise10Claim() {
        VectorDeal x = Check.made("cpus 2;vectors 8;kept 0 1 2 3 4 5;off 1;device a single;device g group 2;device m managed 1;device b single;");
        due("10 no device", x.claim(4), NONE);
        due("10 below 0", x.claim(-1), NONE);
        due("10 managed", x.claim(2), 4);
        due("10 a", x.claim(0), 0);
        due("10 again", x.claim(0), 4);
        due("10 free ones of online cpus are too few", x.claim(1), 2);
        due("10 not promised", x.device(1, 4), 0);
        due("10 b", x.claim(3), 0);
        due("10 promised", x.about(5), 2);
        due("10 acts", x.about(10), 2);
        x.plug(1);
        due("10 with more", x.claim(1), 0);
        due("10 all", x.about(5), 4);
        x.start(0);
        due("10 started", x.claim(0), 4);
        x.stop(0);
        due("10 stopped", x.claim(0), 0);
    }

    private static void promise11Raise() {
        VectorDeal x = Check.made("cpus 2;vectors 8;device a single;device g group 2;device m managed 1 on 1;", "start a;start g;start m;");
        due("11 raise", x.raise(0, 0, false), 1);
        due("11 pending", x.vector(0, 0, 3), 1);
        due("11 merged", x.raise(0, 0, false), 0);
        due("11 late without an old one", x.raise(0, 0, true), 0);
        due("11 merged of it", x.device(0, 6), 2);
        due("11 merged of all", x.about(8), 2);
        due("11 another line", x.raise(1, 1, false), 1);
        due("11 at its own", x.vector(1, 1, 3), 1);
        due("11 no line", x.raise(1, 2, false), NONE);
        due("11 line below 0", x.raise(1, -1, false), NONE);
        due("11 no device", x.raise(3, 0, false), NONE);
        x.move(0, 0, 2);
        due("11 late at the old one", x.raise(0, 0, true), 0);
        due("11 at the new one", x.raise(0, 0, false), 1);
        due("11 both", x.cpu(0, 3) * 10 + x.cpu(1, 3), 12);
        x.unplug(1);
        due("11 shut", x.line(2, 0, 0), NONE);
        due("11 it waits", x.raise(2, 0, false), 1);
        due("11 late waits too", x.raise(2, 0, true), 0);
        due("11 more is merged", x.device(2, 6), 1);
        x.stop(2);
        int acts = x.about(10);
        due("11 not started", x.raise(2, 0, false), NONE);
        due("11 no act", x.about(10), acts);
        x.raise(0, 0, false);
        due("11 merged is an act", x.about(10), acts + 1);
    }

    private static void promise12Tick() {
        VectorDeal x = Check.made("cpus 2;vectors 8;device a single on 0;device g group 4 on 0;device b single on 1;",
                "start a;start g;start b;raise a 0;raise g 0;raise g 3;raise b 0;");
        due("12 none", x.tick(0), NONE);
        due("12 too many", x.tick(101), NONE);
        due("12 below 0", x.tick(-5), NONE);
        due("12 nothing done", x.about(6), 0);
        due("12 each cpu one", x.tick(1), 2);
        due("12 the greatest", x.vector(0, 7, 3), 0);
        due("12 others wait", x.cpu(0, 3), 2);
        due("12 two more", x.tick(100), 2);
        due("12 ticks", x.about(6), 101);
        due("12 delivered", x.about(7), 4);
        due("12 of g", x.device(1, 5), 2);
        due("12 handled", x.cpu(0, 6) * 10 + x.cpu(1, 6), 31);
        due("12 from cpu 0 on", x.log(3, 0) * 1000 + x.log(2, 0) * 100 + x.log(1, 0) * 10 + x.log(0, 0), 1210);
        int acts = x.about(10);
        due("12 an act although nothing is", x.tick(1), 0);
        due("12 acts", x.about(10), acts + 1);
    }

    private static void promise12Drain() {
        VectorDeal x = Check.made("cpus 2;vectors 8;device z single on 0;device a single on 0;device m managed 1;",
                "start z;start a;start m;");
        due("12 a", at(x, 1, 0), 1);
        due("12 m", at(x, 2, 0), 100);
        // the old one pends behind another: it drains, but stays until it was handled
        x.move(0, 0, 2);
        x.raise(0, 0, true);
        x.raise(1, 0, false);
        x.raise(0, 0, false);
        due("12 a and the new one", x.tick(1), 2);
        due("12 drains", x.line(0, 0, 4), 1);
        due("12 old yet", oldAt(x, 0, 0), 0);
        due("12 old one", x.tick(1), 1);
        due("12 old no more", oldAt(x, 0, 0), NONE);
        due("12 drains no more", x.line(0, 0, 4), 0);
        due("12 free", x.vector(0, 0, 0), 0);
        due("12 by an old one", x.log(0, 4), 1);
        // an old one that is heard alone does not drain
        x.move(1, 0, 2);
        x.raise(1, 0, true);
        due("12 only the old one", x.tick(3), 1);
        due("12 does not drain", x.line(1, 0, 4), 0);
        due("12 is old", oldAt(x, 1, 0), 1);
        // a queue's old one is reserved again
        x.move(2, 0, 1);
        due("12 queue's old one", x.vector(1, 0, 0), 3);
        x.raise(2, 0, false);
        x.tick(1);
        due("12 reserved again", x.vector(1, 0, 0), 4);
        due("12 its own", x.vector(1, 0, 1) * 10 + x.vector(1, 0, 2), 20);
        due("12 law", x.law(), 0);
        drainingIsForgotten();
    }

    /** An old one that drains, and pends behind another: then the device stops, or the new one's cpu leaves. */
    private static void drainingIsForgotten() {
        String rest = "device a single on 0;device z group 4 on 0;";
        String board = "cpus 3;vectors 8;device m managed 1 on 0 1;" + rest;
        String orders = "start m;start a;start z;raise m 0;move m 0 to 1;raise m 0;raise z 3;tick 1;";
        VectorDeal x = Check.made(board, orders);
        due("12 drains, but pends", x.line(0, 0, 4) * 10 + x.vector(0, 0, 3), 11);
        x.stop(0);
        x.start(0);
        due("12 another start drains nothing", x.line(0, 0, 4), 0);
        VectorDeal y = Check.made(board, orders);
        due("12 new one's cpu leaves", y.unplug(1), 0);
        due("12 it holds its old one", at(y, 0, 0), 0);
        due("12 that drains nothing", y.line(0, 0, 4), 0);
        due("12 nothing was merged", y.device(0, 6), 0);
        y.tick(5);
        due("12 held yet", y.vector(0, 0, 0), 2);
        VectorDeal z = Check.made(board, orders);
        due("12 old one's cpu leaves", z.unplug(0), 0);
        due("12 drains no more", z.line(0, 0, 4), 0);
        due("12 pends at the new one", z.vector(1, 0, 3), 1);
        drainingGoesOn(Check.made("cpus 3;vectors 8;device m managed 1;" + rest, orders));
    }

    /** The new one's cpu leaves for a third one: the old one stays, and is reserved once it was handled. */
    private static void drainingGoesOn(VectorDeal x) {
        due("12 new one's cpu leaves", x.unplug(1), 0);
        due("12 for a third one", at(x, 0, 0), 200);
        due("12 its old one is there", oldAt(x, 0, 0), 0);
        due("12 and drains, and pends", x.line(0, 0, 4) * 10 + x.vector(0, 0, 3), 11);
        due("12 nothing pends at the third one", x.cpu(2, 3), 0);
        due("12 the old one is heard", x.tick(1), 1);
        due("12 by an old one", x.log(0, 4), 1);
        due("12 old no more", oldAt(x, 0, 0), NONE);
        due("12 reserved", x.vector(0, 0, 0), 4);
        due("12 law", x.law(), 0);
    }

    private static void promise13MoveOne() {
        VectorDeal x = Check.made("cpus 4;vectors 8;off 3;device a single on 0;device b single on 1;", "start a;start b;raise a 0;");
        due("13 least loaded of those", x.move(0, 0, 6), 0);
        due("13 there", at(x, 0, 0), 200);
        due("13 old", oldAt(x, 0, 0), 0);
        due("13 old by kind", x.vector(0, 0, 0), 3);
        due("13 pending there", x.vector(0, 0, 3), 1);
        due("13 not at the new one", x.vector(2, 0, 3), 0);
        due("13 load counts old ones", x.cpu(0, 0), 1);
        due("13 does not drain yet", x.line(0, 0, 4), 0);
        due("13 bits beyond", x.move(1, 0, 0x7FFFFFF0), 1);
        due("13 bits beyond and one", x.move(1, 0, 0x40000001), 0);
        due("13 on 0", at(x, 1, 0), 1);
        due("13 acts", x.about(10), 3);
    }

    private static void promise13MoveGroup() {
        VectorDeal x = Check.made("cpus 2;vectors 8;device a single on 1;device g group 4 on 0;", "start a;start g;raise g 2;");
        due("13 group", x.move(1, 3, 3), 0);
        for (int l = 0; l < 4; l++) {
            due("13 new " + l, at(x, 1, l), 104 + l);
            due("13 old " + l, oldAt(x, 1, l), l);
        }
        due("13 pending at the old one", x.vector(0, 2, 3), 1);
        x.raise(1, 0, false);
        x.tick(1);
        due("13 one drained", oldAt(x, 1, 0), NONE);
        due("13 of any of it", x.move(1, 0, 1), 3);
        due("13 its others are there", oldAt(x, 1, 1), 1);
        for (int l = 1; l < 4; l++) {
            x.raise(1, l, false);
        }
        x.tick(4);
        due("13 all drained", x.cpu(0, 0), 0);
        due("13 back", x.move(1, 1, 1), 0);
        due("13 there", at(x, 1, 1), 1);
    }

    private static void promise13MoveQueue() {
        VectorDeal x = Check.made("cpus 4;vectors 8;device m managed 2 on 0 1 2;device a single on 1;", "start m;start a;");
        // i * 2 / 3: cpus 0 1 are of queue 0, cpu 2 of queue 1
        due("13 queue 0", at(x, 0, 0), 0);
        due("13 queue 1", at(x, 0, 1), 200);
        due("13 none of its cpus", x.move(0, 0, 12), 1);
        due("13 but its own", x.move(0, 0, 1), 1);
        due("13 queue 1 has no other", x.move(0, 1, 15), 1);
        due("13 to what is reserved there", x.move(0, 0, 15), 0);
        due("13 there", at(x, 0, 0), 100);
        due("13 old", oldAt(x, 0, 0), 0);
        due("13 old yet", x.move(0, 0, 1), 3);
        x.raise(0, 0, false);
        x.tick(1);
        due("13 not that of another queue", x.move(0, 1, 3), 1);
        x.unplug(0);
        due("13 not online", x.move(0, 0, 1), 1);
        VectorDeal y = Check.made("cpus 4;vectors 8;device s single on 1;device m managed 1;", "start s;start m;");
        due("13 least loaded", y.move(1, 0, 14), 0);
        due("13 of like ones the least", at(y, 1, 0), 200);
    }

    private static void promise13MoveRefused() {
        VectorDeal x = Check.made("cpus 2;vectors 8;kept 2 3 4 5 6 7;device a single on 0;device b group 2 on 1;device m managed 1 on 1;");
        due("13 no device", x.move(3, 0, 1), NONE);
        due("13 below 0", x.move(-1, 0, 1), NONE);
        due("13 cpus below 0", x.move(0, 0, -1), NONE);
        due("13 not started", x.move(0, 0, 2), 4);
        x.start(0);
        due("13 no line", x.move(0, 1, 2), 4);
        due("13 line below 0", x.move(0, -1, 2), 4);
        due("13 to none", x.move(0, 0, 0), 1);
        due("13 its own", x.move(0, 0, 1), 1);
        x.start(1);
        due("13 no room", x.move(0, 0, 2), 1);
        due("13 no block", x.move(1, 0, 1), 1);
        due("13 nothing happens", oldAt(x, 0, 0), NONE);
        x.stop(1);
        due("13 room", x.move(0, 0, 2), 0);
        due("13 old yet goes ahead of no room", x.move(0, 0, 0), 3);
        due("13 no line goes ahead of all", x.move(0, 1, 0), 4);
        x.undo();
        x.start(2);
        x.unplug(1);
        due("13 shut", x.move(2, 0, 1), 4);
    }

    private static void promise14UnplugOne() {
        VectorDeal x = Check.made("cpus 3;vectors 8;device a single on 0 1;device b single on 2;device c single on 0;", "start a;start b;start c;raise a 0;raise c 0;");
        due("14 unplug", x.unplug(0), 0);
        due("14 to its set", at(x, 0, 0), 100);
        due("14 none of its set: to all", at(x, 2, 0), 101);
        due("14 without an old one", oldAt(x, 0, 0), NONE);
        due("14 pending there", x.vector(1, 0, 3) + x.vector(1, 1, 3), 2);
        due("14 nothing left", x.cpu(0, 0) + x.cpu(0, 3), 0);
        due("14 free", x.cpu(0, 1), 8);
        due("14 off", x.about(3), 6);
        // the old one is there: what pends goes to the one that it holds
        x.move(1, 0, 2);
        due("14 moved", at(x, 1, 0), 102);
        x.raise(1, 0, true);
        int merged = x.about(8);
        due("14 old away", x.unplug(2), 0);
        due("14 it stays", at(x, 1, 0), 102);
        due("14 no old one", oldAt(x, 1, 0), NONE);
        due("14 pends there", x.vector(1, 2, 3), 1);
        due("14 not merged", x.about(8), merged);
        // both pend: one is merged
        VectorDeal y = Check.made("cpus 3;vectors 8;device a single;", "start a;raise a 0;move a 0 to 1;raise a 0;unplug 0;");
        due("14 merged", y.device(0, 6), 1);
        due("14 one pends", y.about(13), 1);
        // the held one leaves, the old one stays
        VectorDeal z = Check.made("cpus 3;vectors 8;device a single;device b single on 2;", "start a;start b;move a 0 to 1;raise a 0;late a 0;unplug 1;");
        due("14 old one stays", oldAt(z, 0, 0), 0);
        due("14 dealt beside it", at(z, 0, 0), 1);
        due("14 both pend", z.cpu(0, 3), 2);
        due("14 then both leave", z.unplug(0), 0);
        due("14 merged at the one that it held", z.device(0, 6), 1);
        due("14 brought along", at(z, 0, 0), 201);
        due("14 pending there", z.vector(2, 1, 3), 1);
        due("14 law", z.law(), 0);
    }

    private static void promise14UnplugGroup() {
        VectorDeal x = Check.made("cpus 3;vectors 8;device g group 4 on 0;device h group 2 on 1;", "start g;start h;raise g 1;raise g 3;");
        due("14 group", x.unplug(0), 0);
        due("14 as a whole", at(x, 0, 0), 200);
        due("14 its last", at(x, 0, 3), 203);
        due("14 pending", x.vector(2, 0, 3) * 1000 + x.vector(2, 1, 3) * 100 + x.vector(2, 2, 3) * 10 + x.vector(2, 3, 3), 101);
        due("14 nothing left", x.cpu(0, 1), 8);
        // old ones of all of it go to what it holds, and that is brought away behind them
        VectorDeal y = Check.made("cpus 3;vectors 8;device g group 2 on 0 1;", "start g;raise g 0;raise g 1;move g 0 to 1;raise g 1;unplug 0;");
        due("14 merged", y.device(0, 6), 1);
        due("14 stays", at(y, 0, 0), 100);
        due("14 both pend", y.cpu(1, 3), 2);
        due("14 no old ones", oldAt(y, 0, 0) + oldAt(y, 0, 1), 2 * NONE);
        VectorDeal z = Check.made("cpus 3;vectors 8;kept 0 1 2 3;device g group 2;device h group 4 on 2;",
                "start g;start h;move g 0 to 1;late g 1;unplug 1;");
        due("14 beside its old ones", at(z, 0, 1), 7);
        due("14 old", oldAt(z, 0, 1), 5);
        due("14 refused", z.unplug(0), 1);
    }

    private static void promise14UnplugQueue() {
        VectorDeal x = Check.made("cpus 4;vectors 8;device s single on 1;device m managed 1 on 0 1 2;device o managed 1 on 0;",
                "start s;start m;start o;raise m 0;raise o 0;");
        due("14 queue", x.unplug(0), 0);
        due("14 least loaded of its own", at(x, 1, 0), 200);
        due("14 reserved", x.vector(0, 0, 0), 4);
        due("14 pending there", x.vector(2, 0, 3), 1);
        due("14 shut", at(x, 2, 0), NONE);
        due("14 waits", x.line(2, 0, 5), 1);
        due("14 reserved for it", x.vector(0, 1, 1), 2);
        // the old one's cpu leaves
        x.move(1, 0, 2);
        x.raise(1, 0, false);
        due("14 old one's cpu", x.unplug(2), 0);
        due("14 merged", x.device(1, 6), 1);
        due("14 old is reserved", x.vector(2, 0, 0), 4);
        due("14 held", at(x, 1, 0), 101);
        // the held one's cpu leaves: to where the old one is, of like loads the least
        VectorDeal y = Check.made("cpus 3;vectors 8;device m managed 1;device s single on 2;", "start m;start s;raise m 0;move m 0 to 1;raise m 0;");
        due("14 new", at(y, 0, 0), 100);
        due("14 leaves", y.unplug(1), 0);
        due("14 where its old one is", at(y, 0, 0), 0);
        due("14 no old one", oldAt(y, 0, 0), NONE);
        due("14 held again", y.vector(0, 0, 0), 2);
        due("14 merged", y.device(0, 6), 1);
        due("14 pends", y.vector(0, 0, 3), 1);
        due("14 reserved", y.vector(1, 0, 0), 4);
        due("14 law", y.law(), 0);
        promise14QueueBesideItsOld();
    }

    /** A queue leaves for a cpu of less load than the one where its old one is: that stays old. */
    private static void promise14QueueBesideItsOld() {
        String board = "cpus 3;vectors 8;device m managed 1;device s single on 0;device t single on 2;";
        VectorDeal x = Check.made(board, "start m;start s;start t;raise m 0;move m 0 to 1;raise m 0;");
        due("14 would leave", x.without(1, 0) * 10 + x.without(1, 1), 1);
        due("14 leaves", x.unplug(1), 0);
        due("14 to the least load", at(x, 0, 0), 200);
        due("14 its old one stays", oldAt(x, 0, 0), 0);
        due("14 old by kind", x.vector(0, 0, 0), 3);
        due("14 both pend", x.vector(0, 0, 3) * 10 + x.vector(2, 0, 3), 11);
        due("14 nothing merged", x.device(0, 6), 0);
        due("14 what it held is reserved", x.vector(1, 0, 0) * 10 + x.vector(1, 0, 3), 40);
        due("14 old yet", x.move(0, 0, 1), 3);
        due("14 late goes to the old one", x.raise(0, 0, true), 0);
        due("14 law", x.law(), 0);
        due("14 undo", x.undo() && x.undo(), true);
        due("14 as it was", at(x, 0, 0) * 1000 + oldAt(x, 0, 0), 100_000);
        // of like loads the least, although the old one is on another
        VectorDeal y = Check.made(board, "start m;move m 0 to 2;raise m 0;tick 1;move m 0 to 1;start s;unplug 1;");
        due("14 the least of like ones", at(y, 0, 0), 0);
        due("14 its old one stays", oldAt(y, 0, 0), 200);
        // then the old one's cpu leaves, too
        y.raise(0, 0, true);
        due("14 old one's cpu leaves", y.unplug(2), 0);
        due("14 brought to what it holds", y.vector(0, 0, 3) * 10 + y.vector(2, 0, 3), 10);
        due("14 no old one", oldAt(y, 0, 0), NONE);
        due("14 law", y.law(), 0);
    }

    private static void promise14UnplugRefused() {
        VectorDeal x = Check.made("cpus 3;vectors 8;kept 0 1 2 3 4 5;off 2;device g group 2 on 0;device h group 2 on 1;device a single;");
        due("14 no cpu", x.unplug(3), NONE);
        due("14 below 0", x.unplug(-1), NONE);
        due("14 not online", x.unplug(2), 4);
        x.start(0);
        x.start(1);
        due("14 no room", x.unplug(0), 1);
        due("14 nothing happens", x.about(3), 3);
        due("14 held yet", at(x, 0, 1), 7);
        x.stop(1);
        x.claim(1);
        due("14 promises", x.unplug(0), 2);
        due("14 nothing happens", at(x, 0, 0), 6);
        x.stop(0);
        due("14 enough", x.unplug(0), 0);
        due("14 the only one goes ahead", x.unplug(1), 5);
        VectorDeal y = Check.made("cpus 2;vectors 8;kept 0 1 2 3 4;device a single on 0;device g group 2 on 0;device p single;device q single;"
                + "device r single;device s single on 1;device t single on 1;", "start a;start g;start s;start t;claim p;");
        due("14 room ahead of promises", y.unplug(0), 1);
        y.stop(1);
        due("14 promises behind it", y.unplug(0), 2);
    }

    private static void promise15Plug() {
        VectorDeal x = Check.made("cpus 3;vectors 8;off 1 2;device m managed 2;device o managed 1 on 2;device a single;",
                "start m;start o;start a;raise o 0;raise o 0;");
        due("15 no cpu", x.plug(3), NONE);
        due("15 below 0", x.plug(-1), NONE);
        due("15 online", x.plug(0), 4);
        int acts = x.about(10);
        // i * 2 / 3: cpus 0 1 are of queue 0, cpu 2 of queue 1
        due("15 queue 1 is shut", at(x, 0, 1), NONE);
        due("15 plug", x.plug(1), 0);
        due("15 not its cpu", at(x, 0, 1), NONE);
        due("15 held ones stay", at(x, 0, 0), 0);
        due("15 plug", x.plug(2), 0);
        due("15 held there", at(x, 0, 1), 200);
        due("15 o held there", at(x, 1, 0), 201);
        due("15 pending there", x.vector(2, 1, 3), 1);
        due("15 nothing for the other", x.vector(2, 0, 3), 0);
        due("15 waits no more", x.line(1, 0, 5), 0);
        due("15 online", x.about(3), 7);
        due("15 acts", x.about(10), acts + 2);
        due("15 delivered", x.tick(1), 1);
    }

    private static void promise16Undo() {
        VectorDeal x = Check.made("cpus 2;vectors 8;device a single;device m managed 2;device g group 2;");
        due("16 none", x.undo(), false);
        x.start(0);
        x.start(1);
        x.claim(2);
        x.raise(0, 0, false);
        x.move(0, 0, 2);
        x.raise(0, 0, false);
        x.tick(2);
        x.unplug(0);
        x.plug(0);
        x.stop(0);
        due("16 acts", x.about(10), 10);
        x.start(7);
        x.start(1);
        x.tick(0);
        x.stop(0);
        due("16 no acts", x.about(10), 10);
        due("16 stop", x.undo(), true);
        due("16 started", x.device(0, 3), 1);
        due("16 plug", x.undo(), true);
        due("16 off", x.about(3), 2);
        due("16 unplug", x.undo(), true);
        due("16 on", x.about(3), 3);
        due("16 ticks", x.undo(), true);
        due("16 not ticked", x.about(6) + x.about(7) + x.cpu(0, 6) + x.cpu(1, 6), 0);
        due("16 no log", x.log(0, 0), NONE);
        due("16 raise", x.undo(), true);
        due("16 one pends", x.about(13), 1);
        due("16 move", x.undo(), true);
        due("16 no old one", oldAt(x, 0, 0), NONE);
        due("16 raise", x.undo(), true);
        due("16 nothing pends", x.about(13), 0);
        due("16 claim", x.undo(), true);
        due("16 nothing promised", x.about(5), 0);
        due("16 start", x.undo(), true);
        due("16 nothing reserved", x.about(4), 15);
        due("16 start", x.undo(), true);
        due("16 all free", x.about(4), 16);
        due("16 no more", x.undo(), false);
        for (int i = 0; i < 20; i++) {
            x.tick(1);
        }
        due("16 sixteen", x.about(10), 16);
        int undone = 0;
        for (int i = 0; i < 20; i++) {
            undone += x.undo() ? 1 : 0;
        }
        due("16 at most", undone, 16);
        due("16 the oldest went", x.about(6), 4);
    }

    private static void promise17Redo() {
        VectorDeal x = Check.made("cpus 2;vectors 8;device a single;");
        due("17 none", x.redo(), false);
        x.start(0);
        x.raise(0, 0, false);
        x.tick(1);
        due("17 nothing taken back", x.redo(), false);
        x.undo();
        x.undo();
        x.undo();
        due("17 can be", x.about(11), 3);
        due("17 start", x.redo(), true);
        due("17 started", x.device(0, 3), 1);
        due("17 raise", x.redo(), true);
        due("17 pends", x.about(13), 1);
        due("17 tick", x.redo(), true);
        due("17 delivered", x.about(7), 1);
        due("17 log", x.log(0, 0), 0);
        due("17 no more", x.redo(), false);
        x.undo();
        x.undo();
        due("17 a call that is no act", x.start(0), 4);
        due("17 can be yet", x.about(11), 2);
        x.tick(1);
        due("17 gone by another act", x.about(11), 0);
        due("17 no redo", x.redo(), false);
        due("17 undo goes on", x.about(10), 2);
        for (int i = 0; i < 30; i++) {
            x.tick(1);
        }
        for (int i = 0; i < 16; i++) {
            x.undo();
        }
        due("17 sixteen", x.about(11), 16);
        int redone = 0;
        for (int i = 0; i < 20; i++) {
            redone += x.redo() ? 1 : 0;
        }
        due("17 again", redone, 16);
        due("17 all there", x.about(6), 31);
    }
}
