import java.util.function.IntSupplier;

/** The edges that the document names for ACTS (Terms, 2) and for promises 8 to 17: a test for each sentence. */
public final class ActEdgesTest {
    private static final Check CHECK = new Check("ActEdgesTest");
    private static final int NONE = VectorDeal.NONE;
    private static final int LEAST = Integer.MIN_VALUE;
    private static final int GREATEST = Integer.MAX_VALUE;

    public static void main(String[] args) {
        loadIsHeldAndOld();
        oneToTheLeastLoaded();
        oneWhereThereIsRoom();
        groupToAnAlignedBlock();
        groupAtTheEndOfTheRow();
        queuesAreReservedOnAll();
        queuesNeedRoomForAll();
        startRefused();
        claimRefused();
        promisesAndStart();
        promisesAndQueues();
        promisesAndOtherActs();
        stopDrops();
        stopOfNone();
        raiseIsMerged();
        raiseLate();
        raiseOfShut();
        raiseOfNone();
        tickOfWrongNumbers();
        tickHandlesTheGreatest();
        tickDrains();
        moveButItsOwn();
        moveOfGroup();
        moveOfQueue();
        moveRefusedByTheGreatest();
        moveOfNone();
        unplugOld();
        unplugToItsSetThenAll();
        unplugGroup();
        unplugQueue();
        unplugRefused();
        unplugRefusedLeavesAll();
        plugOpensShut();
        plugRefused();
        neighboursAreNotMeant();
        theTenthOfEightLines();
        everyActIsTakenBack();
        sixteenAreKept();
        redoTillAnotherAct();
        CHECK.finish();
    }

    private static void due(String what, long got, long want) {
        CHECK.due(what, got, want);
    }

    /** Where a LINE is: its CPU times 100 and its VECTOR; NONE if it is SHUT or not STARTED. */
    private static int at(VectorDeal x, int device, int line) {
        return x.line(device, line, 0) == NONE ? NONE : x.line(device, line, 0) * 100 + x.line(device, line, 1);
    }

    private static int oldAt(VectorDeal x, int device, int line) {
        return x.line(device, line, 2) == NONE ? NONE : x.line(device, line, 2) * 100 + x.line(device, line, 3);
    }

    /** A call that answers so and does nothing. */
    private static void idle(VectorDeal x, String what, IntSupplier call, int want) {
        String before = Check.whole(x);
        due(what, call.getAsInt(), want);
        CHECK.same(what + ": nothing happens, but it", Check.whole(x), before);
    }

    /** An ACT that answers so, can be taken back, and done again. */
    private static void act(VectorDeal x, String what, IntSupplier call, int want) {
        String before = Check.state(x);
        int acts = x.about(10);
        due(what, call.getAsInt(), want);
        String behind = Check.state(x);
        due(what + ": acts", x.about(10), Math.min(acts + 1, 16));
        due(what + ": to redo", x.about(11), 0);
        CHECK.due(what + ": undo", x.undo(), true);
        CHECK.same(what + " undone", Check.state(x), before);
        CHECK.due(what + ": redo", x.redo(), true);
        CHECK.same(what + " done again", Check.state(x), behind);
        due(what + ": law", x.law(), 0);
    }

    /** LOAD of a CPU: its HELD and OLD ones (not KEPT, RESERVED ones). */
    private static void loadIsHeldAndOld() {
        VectorDeal x = Check.made("cpus 2;vectors 8;kept 0 1;device m managed 1;device a single;device g group 2 on 1;");
        due("kept ones are no load", x.cpu(0, 0) + x.cpu(1, 0), 0);
        x.start(0);
        due("held is", x.cpu(0, 0), 1);
        due("reserved is not", x.cpu(1, 0), 0);
        x.start(1);
        due("so one goes there", at(x, 1, 0), 103);
        x.start(2);
        x.move(2, 0, 1);
        due("old ones are", x.cpu(1, 0), 3);
        due("and new ones", x.cpu(0, 0), 3);
    }

    /** To be DEALT, for one: .. asked and ONLINE .. that of the least LOAD, of like ones the least; there the least FREE VECTOR. */
    private static void oneToTheLeastLoaded() {
        VectorDeal x = Check.made("cpus 4;vectors 8;kept 0 2;off 1;device a single;device b single;device c single;device d single;"
                + "device e single on 1;device f single on 3;device g single on 1 3;");
        act(x, "start a", () -> x.start(0), 0);
        due("of like ones the least, the least free one", at(x, 0, 0), 1);
        act(x, "start b", () -> x.start(1), 0);
        due("the least load, but not what is off", at(x, 1, 0), 201);
        act(x, "start c", () -> x.start(2), 0);
        due("the last one", at(x, 2, 0), 301);
        act(x, "start d", () -> x.start(3), 0);
        due("like ones again, behind a kept one", at(x, 3, 0), 3);
        idle(x, "its set is off", () -> x.start(4), 1);
        act(x, "start f", () -> x.start(5), 0);
        due("its set alone", at(x, 5, 0), 303);
        act(x, "start g", () -> x.start(6), 0);
        due("what is online of its set", at(x, 6, 0), 304);
        x.stop(0);
        act(x, "start a again", () -> x.start(0), 0);
        due("load 1 of 0 and of 2: the least", at(x, 0, 0), 1);
    }

    /** .. and have a FREE one. */
    private static void oneWhereThereIsRoom() {
        // three VECTORS each: on 0 s and two that are RESERVED, on 1 m and u, on 2 n and v
        VectorDeal x = Check.made("cpus 3;vectors 8;kept 3 4 5 6 7;device s single on 0;device m managed 1 on 0 1;"
                + "device n managed 1 on 0 2;"
                + "device u single on 1;device g group 2 on 2;device v single on 2;device a single;device b single;",
                "start s;start m;start n;start u;start v;start b;");
        due("m is on 1", at(x, 1, 0), 100);
        due("n is on 2", at(x, 2, 0), 200);
        due("b went to what has room", at(x, 7, 0), 102);
        x.stop(7);
        due("loads", x.cpu(0, 0) * 100 + x.cpu(1, 0) * 10 + x.cpu(2, 0), 122);
        due("free ones", x.cpu(0, 1) * 100 + x.cpu(1, 1) * 10 + x.cpu(2, 1), 11);
        act(x, "start a", () -> x.start(6), 0);
        due("not the least load, which is full", at(x, 6, 0), 102);
        act(x, "start b", () -> x.start(7), 0);
        due("the last free one", at(x, 7, 0), 202);
        x.stop(6);
        x.stop(7);
        x.start(7);
        x.start(6);
        idle(x, "all full", () -> x.claim(4), 2);
        due("none free", x.about(4), 0);
    }

    /** For a group of n: likewise, of those that have n FREE ones from a multiple of n on; there the least BLOCK. */
    private static void groupToAnAlignedBlock() {
        VectorDeal x = Check.made("cpus 2;vectors 8;kept 3;device g group 2 on 0;device h group 2 on 0;device a single on 1;"
                + "device b single on 1;"
                + "device c single on 1;device q group 4;device r group 4;device e group 8;", "start g;start h;start a;start b;start c;");
        due("g", at(x, 0, 0) * 1000 + at(x, 0, 1), 1);
        due("h behind what is kept", at(x, 1, 0) * 1000 + at(x, 1, 1), 4005);
        x.stop(0);
        due("five are free, but no four from a multiple of four on", x.cpu(0, 1) * 10 + x.cpu(0, 5), 52);
        act(x, "start q", () -> x.start(5), 0);
        due("where the load is greater", at(x, 5, 0), 104);
        due("its last", at(x, 5, 3), 107);
        idle(x, "no other four", () -> x.start(6), 1);
        idle(x, "no eight", () -> x.start(7), 1);
        act(x, "start g again", () -> x.start(0), 0);
        due("the least block", at(x, 0, 0), 0);
        // of like loads the least CPU
        VectorDeal y = Check.made("cpus 3;vectors 8;off 0;device g group 4;device h group 4;device i group 4;", "start g;start h;start i;");
        due("of like ones the least", at(y, 0, 0) * 1000 + at(y, 1, 0), 100_200);
        due("the next block", at(y, 2, 0), 104);
    }

    /** An aligned BLOCK has n VECTORS: a rest of the row is none. */
    private static void groupAtTheEndOfTheRow() {
        String low = "kept 0 1 2 3 4 5 6 7;device g group ";
        due("one of two", Check.made("cpus 1;vectors 9;" + low + "2;").start(0), 1);
        due("two", Check.made("cpus 1;vectors 10;" + low + "2;").start(0), 0);
        due("three of four", Check.made("cpus 1;vectors 11;" + low + "4;").start(0), 1);
        VectorDeal four = Check.made("cpus 1;vectors 12;" + low + "4;");
        due("four", four.start(0), 0);
        due("the last four", at(four, 0, 0) * 100 + at(four, 0, 3), 811);
        due("seven of eight", Check.made("cpus 1;vectors 15;" + low + "8;").start(0), 1);
        due("eight", Check.made("cpus 1;vectors 16;" + low + "8;").start(0), 0);
        String more = "kept 0 1 2 3 4 5 6 7 8 9 10 11 12 13 14 15 16 17 18 19 20 21 22 23;device g group 8;";
        due("up to 30", Check.made("cpus 1;vectors 31;" + more).start(0), 1);
        VectorDeal last = Check.made("cpus 1;vectors 32;" + more);
        act(last, "up to 31", () -> last.start(0), 0);
        due("from 24", at(last, 0, 0) * 100 + at(last, 0, 7), 2431);
        due("no more is free", last.about(4), 0);
        last.raise(0, 7, false);
        due("the last vector is handled", last.tick(1), 1);
    }

    /**
     * managed: for each QUEUE, on each of its CPUS, ONLINE or not, the least FREE VECTOR is RESERVED; .. HELD ..;
     * SHUT, if none is ONLINE.
     */
    private static void queuesAreReservedOnAll() {
        VectorDeal x = Check.made("cpus 4;vectors 8;kept 1;off 1 3;device s single on 0;device m managed 2;device o managed 3 on 3 0;",
                "start s;");
        // QUEUE 0 on 0 1, QUEUE 1 on 2 3
        act(x, "start m", () -> x.start(1), 0);
        due("queue 0 on what is online", at(x, 1, 0), 2);
        due("queue 1 likewise", at(x, 1, 1), 200);
        due("reserved on 1", x.vector(1, 0, 0) * 100 + x.vector(1, 0, 1) * 10 + x.vector(1, 0, 2), 410);
        due("reserved on 3", x.vector(3, 0, 0) * 100 + x.vector(3, 0, 1) * 10 + x.vector(3, 0, 2), 411);
        due("free", x.cpu(0, 1) * 1000 + x.cpu(1, 1) * 100 + x.cpu(2, 1) * 10 + x.cpu(3, 1), 5666);
        // QUEUES 0 and 2 on 0, QUEUE 1 on 3, which is off
        act(x, "start o", () -> x.start(2), 0);
        due("queue 0", at(x, 2, 0), 3);
        due("queue 1 is shut", at(x, 2, 1), NONE);
        due("queue 2 goes round", at(x, 2, 2), 4);
        due("reserved for the shut one", x.vector(3, 2, 0) * 100 + x.vector(3, 2, 1) * 10 + x.vector(3, 2, 2), 421);
        // HELD on the least load, of like ones the least
        VectorDeal y = Check.made("cpus 4;vectors 8;device s single on 0;device t single on 1;device m managed 1;device n managed 1;");
        y.start(0);
        y.start(1);
        y.start(2);
        due("the least of 2 3", at(y, 2, 0), 200);
        y.start(3);
        due("the least load", at(y, 3, 0), 301);
    }

    /** START .. REFUSED: (1) there is no room for all. */
    private static void queuesNeedRoomForAll() {
        String board = "cpus 2;vectors 8;kept 2 3 4 5 6 7;off 1;device f managed 4;device m managed 5;device o managed 2 on 1;"
                + "device n managed 1;"
                + "device s single on 0;";
        VectorDeal x = Check.made(board);
        idle(x, "three on 0", () -> x.start(1), 1);
        act(x, "two on each", () -> x.start(0), 0);
        due("none is free", x.cpu(0, 1) + x.cpu(1, 1), 0);
        VectorDeal y = Check.made(board);
        act(y, "both of 1", () -> y.start(2), 0);
        idle(y, "no room where it is off", () -> y.start(3), 1);
        due("though there is where it is online", y.cpu(0, 1), 2);
        y.stop(2);
        act(y, "room again", () -> y.start(3), 0);
        act(y, "one is left", () -> y.start(4), 0);
        idle(y, "one is too few", () -> y.start(0), 1);
    }

    /** 8: 1, 2 REFUSED; 4: it is STARTED; NONE if there is no such DEVICE; (1) goes ahead of (2). */
    private static void startRefused() {
        VectorDeal x = Check.made("cpus 2;vectors 8;kept 0 1 2 3 4 5;device a single on 0;device b single on 0;device c single on 0;"
                + "device d single;"
                + "device g group 2 on 0;device m managed 1 on 1;");
        for (int device : new int[] {-1, 6, 7, 10, LEAST, GREATEST}) {
            idle(x, "start " + device, () -> x.start(device), NONE);
        }
        x.start(0);
        x.start(1);
        idle(x, "started", () -> x.start(0), 4);
        idle(x, "full", () -> x.start(2), 1);
        x.start(5);
        idle(x, "managed and started", () -> x.start(5), 4);
        x.claim(3);
        idle(x, "no room, and it would break a promise", () -> x.start(2), 1);
        idle(x, "no block, and it would break a promise", () -> x.start(4), 1);
        x.stop(5);
        x.claim(2);
        idle(x, "no room in its set, but its promise is kept", () -> x.start(2), 1);
        due("that promise stays", x.device(2, 4), 1);
        idle(x, "started goes ahead of all", () -> x.start(1), 4);
    }

    /** 10: It is PROMISED: 0; 2 REFUSED; 4: it is PROMISED, STARTED or managed; NONE if there is no such DEVICE. */
    private static void claimRefused() {
        VectorDeal x = Check.made("cpus 2;vectors 8;kept 0 3 4 5 6 7;off 1;device a single;device b single;device g group 2;"
                + "device m managed 1;"
                + "device h group 4;");
        for (int device : new int[] {-1, 5, 6, 10, LEAST, GREATEST}) {
            idle(x, "claim " + device, () -> x.claim(device), NONE);
        }
        idle(x, "managed", () -> x.claim(3), 4);
        idle(x, "four of two", () -> x.claim(4), 2);
        act(x, "two of two, though no block", () -> x.claim(2), 0);
        due("so many are promised", x.about(5), 2);
        idle(x, "promised", () -> x.claim(2), 4);
        idle(x, "one more", () -> x.claim(0), 2);
        x.undo();
        act(x, "one of two", () -> x.claim(0), 0);
        idle(x, "two of one", () -> x.claim(2), 2);
        act(x, "one of one", () -> x.claim(1), 0);
        due("all are promised", x.about(5) * 10 + x.about(4), 22);
        x.plug(1);
        idle(x, "four of two more", () -> x.claim(4), 2);
        act(x, "two of two more", () -> x.claim(2), 0);
        x.start(0);
        idle(x, "started", () -> x.claim(0), 4);
        x.start(3);
        idle(x, "managed and started", () -> x.claim(3), 4);
        // free ones count wherever they are, a block is not asked for
        VectorDeal y = Check.made("cpus 2;vectors 8;kept 1 2 3 4 5 6 7;device g group 2;");
        act(y, "one each", () -> y.claim(0), 0);
        idle(y, "but no room for it", () -> y.start(0), 1);
    }

    /** FREE ones .. must be no fewer than all that is PROMISED: START (behind it; its own promise is gone by it) .. REFUSED (2). */
    private static void promisesAndStart() {
        VectorDeal x = Check.made("cpus 1;vectors 8;kept 0 1 2 3;device g group 2;device a single;device b single;device c single;"
                + "device h group 2;");
        x.claim(0);
        act(x, "one of two that are not promised", () -> x.start(1), 0);
        idle(x, "two of one that is not promised", () -> x.start(4), 2);
        act(x, "as many are free as promised", () -> x.start(2), 0);
        due("two and two", x.about(4) * 10 + x.about(5), 22);
        idle(x, "one fewer", () -> x.start(3), 2);
        idle(x, "the promised ones are not another's", () -> x.start(4), 2);
        act(x, "its own promise", () -> x.start(0), 0);
        due("is gone", x.about(5) * 10 + x.device(0, 4), 0);
        x.stop(0);
        due("stop gives no promise", x.about(5), 0);
        act(x, "so another may", () -> x.start(4), 0);
    }

    /** START of a managed one: what it reserves where a CPU is ONLINE is FREE no more. */
    private static void promisesAndQueues() {
        VectorDeal x = Check.made("cpus 2;vectors 8;kept 2 3 4 5 6 7;off 1;device a single;device b single;device o managed 2 on 1;"
                + "device n managed 1;");
        x.claim(0);
        x.claim(1);
        act(x, "reserved where it is off", () -> x.start(2), 0);
        x.stop(2);
        idle(x, "reserved where it is online, too", () -> x.start(3), 2);
        x.plug(1);
        act(x, "with two more", () -> x.start(3), 0);
        due("as many as promised", x.about(4) * 10 + x.about(5), 22);
        idle(x, "two more are too many", () -> x.start(2), 1);
    }

    /** .. claim(), UNPLUG are REFUSED (2) if they would not be: other ACTS are not. */
    private static void promisesAndOtherActs() {
        VectorDeal x = Check.made("cpus 2;vectors 8;kept 0 1 2 3 4 5;device a single on 0;device b single;device c single;"
                + "device d single;device o managed 1 on 1;");
        x.start(0);
        x.claim(1);
        x.claim(2);
        x.claim(3);
        due("three and three", x.about(4) * 10 + x.about(5), 33);
        act(x, "a move takes one", () -> x.move(0, 0, 2), 0);
        due("two and three", x.about(4) * 10 + x.about(5), 23);
        act(x, "raise", () -> x.raise(0, 0, false), 1);
        idle(x, "even with its own promise it would be too few", () -> x.start(1), 2);
        idle(x, "a managed one", () -> x.start(4), 2);
        act(x, "tick", () -> x.tick(1), 1);
        due("three again", x.about(4), 3);
        act(x, "its own promise", () -> x.start(1), 0);
        // UNPLUG that leaves as many as are promised, and one fewer
        VectorDeal y = Check.made("cpus 2;vectors 8;kept 0 1 2 3 4 5;device a single on 0;device b single;device c single;",
                "start a;claim b;");
        act(y, "as many as are promised", () -> y.unplug(0), 0);
        y.undo();
        y.claim(2);
        idle(y, "one fewer", () -> y.unplug(0), 2);
        act(y, "what holds nothing goes likewise: one fewer", () -> y.stop(0), 0);
        act(y, "as many", () -> y.unplug(1), 0);
    }

    /** STOP: its VECTORS (HELD, OLD, RESERVED) are FREE; what is PENDING there, or WAITS, is DROPPED. 9: how many. */
    private static void stopDrops() {
        VectorDeal x = Check.made("cpus 3;vectors 8;kept 7;device a single on 0;device g group 2 on 0;device m managed 2 on 0 1;"
                + "device o managed 1 on 2;",
                "start a;start g;start m;start o;move a 0 to 1;move g 0 to 1;");
        act(x, "none pends", () -> x.stop(3), 0);
        Check.orders(x, "start o;late a 0;raise a 0;late g 0;late g 1;raise g 1;raise m 0;raise o 0;raise o 0;");
        due("all of it", x.about(13), 7);
        act(x, "at the old and the new one", () -> x.stop(0), 2);
        act(x, "of a group", () -> x.stop(1), 3);
        act(x, "of queues", () -> x.stop(2), 1);
        due("only o is left", x.about(13), 1);
        due("free", x.cpu(0, 1) * 100 + x.cpu(1, 1) * 10 + x.cpu(2, 1), 776);
        due("kept stays kept", x.vector(0, 7, 0), 1);
        act(x, "it waits", () -> x.unplug(2), 0);
        due("pending is what waits now", x.line(3, 0, 5), 1);
        act(x, "what waits", () -> x.stop(3), 1);
        due("reserved where it is off is free", x.cpu(2, 1), 7);
        due("dropped of each", x.device(0, 7) * 1000 + x.device(1, 7) * 100 + x.device(2, 7) * 10 + x.device(3, 7), 2311);
        due("dropped", x.about(9), 7);
        due("merged once", x.about(8), 1);
        x.start(0);
        due("it starts without an old one", oldAt(x, 0, 0), NONE);
        due("nothing pends", x.about(13), 0);
    }

    /** 9: NONE, doing nothing, if it is not STARTED, or there is none such. */
    private static void stopOfNone() {
        VectorDeal x = Check.made("cpus 2;vectors 8;device a single;device m managed 2;", "claim a;");
        for (int device : new int[] {-1, 2, 10, LEAST, GREATEST}) {
            idle(x, "stop " + device, () -> x.stop(device), NONE);
        }
        idle(x, "not started", () -> x.stop(1), NONE);
        idle(x, "promised, not started", () -> x.stop(0), NONE);
        x.start(0);
        x.stop(0);
        idle(x, "stopped", () -> x.stop(0), NONE);
    }

    /** RAISE of a LINE: PENDING at its VECTOR; .. if it is PENDING there already, it is MERGED. 11: 1; 0: it was MERGED. */
    private static void raiseIsMerged() {
        VectorDeal x = Check.made("cpus 2;vectors 16;device a single;device g group 8;device m managed 8;", "start a;start g;start m;");
        act(x, "a", () -> x.raise(0, 0, false), 1);
        act(x, "a again is an act", () -> x.raise(0, 0, false), 0);
        due("merged", x.device(0, 6) * 10 + x.about(8), 11);
        act(x, "the first of g", () -> x.raise(1, 0, false), 1);
        act(x, "the last of g", () -> x.raise(1, 7, false), 1);
        act(x, "the last of m", () -> x.raise(2, 7, false), 1);
        act(x, "the last of m again", () -> x.raise(2, 7, false), 0);
        due("pending", x.about(13), 4);
        due("merged of m", x.device(2, 6) * 10 + x.about(8), 12);
        x.tick(2);
        act(x, "behind a tick", () -> x.raise(0, 0, false), 1);
    }

    /** late: at its OLD one, if it has one. */
    private static void raiseLate() {
        VectorDeal x = Check.made("cpus 2;vectors 8;device a single on 0;device m managed 1;", "start a;start m;");
        act(x, "no old one", () -> x.raise(0, 0, true), 1);
        due("at its vector", x.vector(0, 0, 3), 1);
        act(x, "merged there", () -> x.raise(0, 0, true), 0);
        x.tick(1);
        x.move(0, 0, 2);
        act(x, "at the old one", () -> x.raise(0, 0, true), 1);
        due("there", x.vector(0, 0, 3) * 10 + x.vector(1, 1, 3), 10);
        act(x, "merged at the old one", () -> x.raise(0, 0, true), 0);
        act(x, "not merged at the new one", () -> x.raise(0, 0, false), 1);
        act(x, "merged at the new one", () -> x.raise(0, 0, false), 0);
        x.move(1, 0, 1);
        act(x, "a queue's old one", () -> x.raise(1, 0, true), 1);
        due("there, too", x.vector(1, 0, 3), 1);
    }

    /** SHUT: it WAITS (one; more are MERGED). */
    private static void raiseOfShut() {
        VectorDeal x = Check.made("cpus 2;vectors 8;off 1;device m managed 2 on 1;", "start m;");
        act(x, "it waits", () -> x.raise(0, 0, false), 1);
        act(x, "more are merged", () -> x.raise(0, 0, false), 0);
        act(x, "late ones, too", () -> x.raise(0, 0, true), 0);
        act(x, "another queue waits, late or not", () -> x.raise(0, 1, true), 1);
        due("waiting", x.line(0, 0, 5) * 10 + x.line(0, 1, 5), 11);
        due("nothing pends", x.cpu(1, 3), 0);
        due("all that wait", x.about(13), 2);
        due("merged", x.device(0, 6), 2);
        act(x, "ticks don't help", () -> x.tick(100), 0);
        due("they wait yet", x.about(13), 2);
    }

    /** 11: NONE, doing nothing, if there is no such DEVICE, LINE, or it is not STARTED. */
    private static void raiseOfNone() {
        VectorDeal x = Check.made("cpus 2;vectors 8;device a single;device g group 4;device m managed 3;device z single;",
                "start a;start g;start m;claim z;");
        for (boolean late : new boolean[] {false, true}) {
            for (int device : new int[] {-1, 4, 10, LEAST, GREATEST}) {
                idle(x, "raise " + device, () -> x.raise(device, 0, late), NONE);
            }
            for (int line : new int[] {-1, 8, LEAST, GREATEST}) {
                idle(x, "raise of line " + line, () -> x.raise(0, line, late), NONE);
                idle(x, "raise of g line " + line, () -> x.raise(1, line, late), NONE);
            }
            idle(x, "one has no line 1", () -> x.raise(0, 1, late), NONE);
            idle(x, "four have no line 4", () -> x.raise(1, 4, late), NONE);
            idle(x, "three have no line 3", () -> x.raise(2, 3, late), NONE);
            idle(x, "not started", () -> x.raise(3, 0, late), NONE);
        }
        act(x, "the last line", () -> x.raise(1, 3, false), 1);
        act(x, "the last queue", () -> x.raise(2, 2, false), 1);
    }

    /** 12: So many TICKS (1 .. 100) ..; NONE, doing nothing, for another number. (An ACT.) */
    private static void tickOfWrongNumbers() {
        VectorDeal x = Check.made("cpus 1;vectors 8;device a single;", "start a;raise a 0;");
        for (int n : new int[] {0, -1, -100, 101, 102, 1000, LEAST, GREATEST}) {
            idle(x, "tick " + n, () -> x.tick(n), NONE);
        }
        act(x, "one", () -> x.tick(1), 1);
        act(x, "one that delivers nothing", () -> x.tick(1), 0);
        x.raise(0, 0, false);
        act(x, "a hundred", () -> x.tick(100), 1);
        due("ticks", x.about(6), 102);
        VectorDeal empty = new VectorDeal();
        act(empty, "on an empty board", () -> empty.tick(100), 0);
        due("ticks of it", empty.about(6), 100);
    }

    /** A TICK: each ONLINE CPU, from 0 on, handles of its PENDING VECTORS the greatest. */
    private static void tickHandlesTheGreatest() {
        VectorDeal x = Check.made("cpus 2;vectors 32;device g group 8 on 0;device h group 8 on 0;device i group 8 on 0;"
                + "device j group 8 on 0;device a single on 1;",
                "start g;start h;start i;start j;start a;raise g 0;raise j 7;raise g 1;raise h 7;raise a 0;");
        act(x, "the greatest of each", () -> x.tick(1), 2);
        due("first that of 0, at 31", x.log(1, 2) * 100 + x.log(1, 3), 31);
        due("then that of 1, at 0", x.log(0, 2) * 100 + x.log(0, 3), 100);
        act(x, "one by one", () -> x.tick(1), 1);
        due("15", x.log(0, 3), 15);
        act(x, "one by one", () -> x.tick(1), 1);
        due("1", x.log(0, 3), 1);
        act(x, "the last", () -> x.tick(1), 1);
        due("0", x.log(0, 3), 0);
        act(x, "none is left", () -> x.tick(1), 0);
        due("handled", x.cpu(0, 6) * 10 + x.cpu(1, 6), 41);
    }

    /** .. its OLD one DRAINS. Behind that each OLD one that DRAINS and is not PENDING is FREE (of a QUEUE: RESERVED). */
    private static void tickDrains() {
        String board = "cpus 2;vectors 8;device a single on 0;device z group 4 on 0;device m managed 1 on 0 1;";
        VectorDeal x = Check.made(board, "start a;start z;move a 0 to 1;");
        act(x, "nothing was heard", () -> x.tick(5), 0);
        due("old yet", oldAt(x, 0, 0), 0);
        Check.orders(x, "late a 0;");
        act(x, "the old one was heard", () -> x.tick(5), 1);
        due("old yet, and does not drain", oldAt(x, 0, 0) * 10 + x.line(0, 0, 4), 0);
        Check.orders(x, "raise a 0;");
        act(x, "the new one was heard", () -> x.tick(1), 1);
        due("old no more", oldAt(x, 0, 0), NONE);
        due("free", x.vector(0, 0, 0), 0);
        due("of none", x.vector(0, 0, 1), NONE);
        // heard in one tick, the old one first (CPU 0) or last (CPU 1)
        VectorDeal y = Check.made(board, "start a;move a 0 to 1;late a 0;raise a 0;");
        act(y, "both at once", () -> y.tick(1), 2);
        due("old no more", oldAt(y, 0, 0), NONE);
        Check.orders(y, "move a 0 to 0;late a 0;raise a 0;");
        act(y, "both at once, the old one last", () -> y.tick(1), 2);
        due("that is old no more", oldAt(y, 0, 0), NONE);
        due("by an old one", y.log(0, 4) * 10 + y.log(1, 4), 10);
        // the old one waits behind others: it drains, and is free once it was handled
        VectorDeal z = Check.made(board, "start a;start z;move a 0 to 1;late a 0;raise a 0;raise z 3;raise z 0;");
        act(z, "the new one and another", () -> z.tick(1), 2);
        due("drains", z.line(0, 0, 4), 1);
        due("is there", z.vector(0, 0, 0) * 10 + z.vector(0, 0, 3), 31);
        act(z, "another", () -> z.tick(1), 1);
        due("drains yet", z.line(0, 0, 4), 1);
        act(z, "at last", () -> z.tick(1), 1);
        due("is free", z.vector(0, 0, 0) * 10 + z.vector(0, 0, 3), 0);
        due("drains no more", z.line(0, 0, 4), 0);
        // a queue's
        VectorDeal q = Check.made(board, "start m;move m 0 to 1;raise m 0;");
        act(q, "heard", () -> q.tick(1), 1);
        due("reserved for it", q.vector(0, 0, 0) * 100 + q.vector(0, 0, 1) * 10 + q.vector(0, 0, 2), 420);
        due("free are as many as before", q.cpu(0, 1), 7);
    }

    /** MOVE of a LINE to CPUS: DEALT to those (but its own CPU); what it had is OLD, with what is PENDING there. */
    private static void moveButItsOwn() {
        VectorDeal x = Check.made("cpus 4;vectors 8;kept 0;off 3;device a single on 0;device b single on 1;device f group 2 on 2;",
                "start a;start b;start f;raise a 0;");
        idle(x, "to none", () -> x.move(0, 0, 0), 1);
        idle(x, "to its own", () -> x.move(0, 0, 1), 1);
        idle(x, "to its own and what is off", () -> x.move(0, 0, 9), 1);
        idle(x, "to such as there are not", () -> x.move(0, 0, 0x7FFFFFF0), 1);
        idle(x, "to its own and such as there are not", () -> x.move(0, 0, 0x7FFFFFF1), 1);
        act(x, "to all", () -> x.move(0, 0, GREATEST), 0);
        due("the least loaded but its own", at(x, 0, 0), 102);
        due("old", oldAt(x, 0, 0), 1);
        due("with what is pending", x.vector(0, 1, 0) * 10 + x.vector(0, 1, 3), 31);
        due("nothing pends at the new one", x.vector(1, 2, 3), 0);
        act(x, "of like loads the least", () -> x.move(1, 0, 5), 0);
        due("0", at(x, 1, 0), 2);
        due("the last bit that counts", x.plug(3), 0);
        act(x, "a group to it alone", () -> x.move(2, 1, 8), 0);
        due("there", at(x, 2, 1), 303);
    }

    /** A group moves as a whole (whichever LINE is told; all of it has OLD ones then). */
    private static void moveOfGroup() {
        for (int line = 0; line < 4; line++) {
            VectorDeal x = Check.made("cpus 3;vectors 8;kept 2;device s single on 1;device g group 4 on 0;", "start s;start g;raise g 1;");
            int told = line;
            act(x, "line " + line, () -> x.move(1, told, 6), 0);
            for (int l = 0; l < 4; l++) {
                due("line " + l + " is", at(x, 1, l), 204 + l);
                due("line " + l + " was", oldAt(x, 1, l), 4 + l);
            }
            due("pending at the old one", x.vector(0, 5, 3) + x.cpu(2, 3), 1);
            idle(x, "an old one is there", () -> x.move(1, told, 6), 3);
        }
        VectorDeal y = Check.made("cpus 2;vectors 8;kept 5;device s single on 1;device g group 4 on 0;", "start g;start s;");
        idle(y, "six are free, but no block", () -> y.move(1, 0, 2), 1);
        y.stop(0);
        act(y, "a block", () -> y.move(1, 0, 2), 0);
        // all but one of its old ones are gone
        Check.orders(y, "raise g 0;raise g 1;raise g 2;tick 3;");
        due("one is there", oldAt(y, 1, 3), 3);
        due("others are not", oldAt(y, 1, 0), NONE);
        idle(y, "of any of it", () -> y.move(1, 0, 1), 3);
        Check.orders(y, "raise g 3;tick 1;");
        act(y, "none is there", () -> y.move(1, 0, 1), 0);
        due("back", at(y, 1, 3), 3);
    }

    /**
     * A QUEUE: to that of its ONLINE CPUS among those (but its own) with the least LOAD, of like ones the least,
     * at what is RESERVED there.
     */
    private static void moveOfQueue() {
        VectorDeal x = Check.made("cpus 5;vectors 8;off 4;device s single on 1;device m managed 2 on 0 1 2 3 4;device t single on 2;",
                "start s;start m;start t;raise m 0;");
        // i * 2 / 5: CPUS 0 1 2 are of QUEUE 0, 3 4 of QUEUE 1
        due("queue 0", at(x, 1, 0), 0);
        due("queue 1", at(x, 1, 1), 300);
        idle(x, "to its own", () -> x.move(1, 0, 1), 1);
        idle(x, "to those of the other", () -> x.move(1, 0, 24), 1);
        idle(x, "to what is off", () -> x.move(1, 1, 16), 1);
        idle(x, "to none", () -> x.move(1, 0, 0), 1);
        act(x, "to any", () -> x.move(1, 0, 255), 0);
        due("of like loads the least, at what is reserved", at(x, 1, 0), 101);
        due("old, with what is pending", oldAt(x, 1, 0) * 10 + x.vector(0, 0, 3), 1);
        idle(x, "its old one is there", () -> x.move(1, 0, 4), 3);
        act(x, "the other has none", () -> x.plug(4), 0);
        act(x, "so it may", () -> x.move(1, 1, 255), 0);
        due("there", at(x, 1, 1), 400);
        // no FREE one is needed
        VectorDeal y = Check.made("cpus 2;vectors 8;kept 1 2 3 4 5 6 7;device m managed 1;", "start m;");
        due("none is free", y.about(4), 0);
        act(y, "yet it moves", () -> y.move(0, 0, 2), 0);
        due("there", at(y, 0, 0), 100);
    }

    /** 13: REFUSED 1, 3, 4 (of these the greatest). */
    private static void moveRefusedByTheGreatest() {
        VectorDeal x = Check.made("cpus 2;vectors 8;device a single;device g group 2 on 0;device m managed 2;", "start a;start g;start m;");
        idle(x, "1: no such room", () -> x.move(0, 0, 0), 1);
        x.move(0, 0, 2);
        idle(x, "3 and 1", () -> x.move(0, 0, 0), 3);
        idle(x, "4, 3 and 1", () -> x.move(0, 1, 0), 4);
        idle(x, "4: a line below 0", () -> x.move(0, -1, 1), 4);
        idle(x, "4: no line of a group", () -> x.move(1, 2, 2), 4);
        idle(x, "4: no queue", () -> x.move(2, 2, 2), 4);
        idle(x, "4: a great line", () -> x.move(1, GREATEST, 2), 4);
        idle(x, "4: the least line", () -> x.move(1, LEAST, 2), 4);
        x.stop(1);
        idle(x, "4: not started", () -> x.move(1, 0, 2), 4);
        x.unplug(1);
        idle(x, "4: shut", () -> x.move(2, 1, 3), 4);
        due("the other is not", at(x, 2, 0) == NONE ? 1 : 0, 0);
    }

    /** 13: NONE if there is no such DEVICE, or cpus is below 0. */
    private static void moveOfNone() {
        VectorDeal x = Check.made("cpus 2;vectors 8;device a single;device b single;", "start a;");
        for (int device : new int[] {-1, 2, 10, LEAST, GREATEST}) {
            idle(x, "move " + device, () -> x.move(device, 0, 2), NONE);
        }
        for (int cpus : new int[] {-1, -2, LEAST, LEAST + 2}) {
            idle(x, "to " + cpus, () -> x.move(0, 0, cpus), NONE);
            idle(x, "of no line to " + cpus, () -> x.move(0, 1, cpus), NONE);
            idle(x, "of what is not started to " + cpus, () -> x.move(1, 0, cpus), NONE);
        }
        act(x, "to 2", () -> x.move(0, 0, 2), 0);
    }

    /**
     * UNPLUG ..: is its OLD VECTOR there, that is FREE (of a QUEUE: RESERVED), and if it was PENDING, the VECTOR
     * that the LINE HOLDS is (MERGED, if it was).
     */
    private static void unplugOld() {
        String board = "cpus 3;vectors 8;device a single on 0;device m managed 1 on 0 1;";
        VectorDeal none = Check.made(board, "start a;move a 0 to 1;");
        act(none, "nothing pends", () -> none.unplug(0), 0);
        due("free, and nothing pends", none.cpu(0, 1) * 100 + none.about(13) * 10 + none.about(8), 800);
        due("no old one", oldAt(none, 0, 0), NONE);
        VectorDeal old = Check.made(board, "start a;move a 0 to 1;late a 0;");
        act(old, "the old one pends", () -> old.unplug(0), 0);
        due("now the one that it holds", old.vector(1, 0, 3) * 10 + old.about(8), 10);
        VectorDeal held = Check.made(board, "start a;move a 0 to 1;raise a 0;");
        act(held, "the new one pends", () -> held.unplug(0), 0);
        due("it pends yet", held.vector(1, 0, 3) * 10 + held.about(8), 10);
        VectorDeal both = Check.made(board, "start a;move a 0 to 1;raise a 0;late a 0;");
        act(both, "both pend", () -> both.unplug(0), 0);
        due("merged", both.vector(1, 0, 3) * 100 + both.about(8) * 10 + both.device(0, 6), 111);
        VectorDeal queue = Check.made(board, "start m;move m 0 to 1;raise m 0;late m 0;");
        act(queue, "of a queue", () -> queue.unplug(0), 0);
        due("reserved", queue.vector(0, 0, 0) * 100 + queue.vector(1, 0, 3) * 10 + queue.about(8), 411);
        due("it stays", at(queue, 1, 0), 100);
    }

    /** .. it is DEALT to its SET, if none of that has room, to all CPUS; without an OLD one by it; what was PENDING is PENDING there. */
    private static void unplugToItsSetThenAll() {
        VectorDeal x = Check.made("cpus 4;vectors 8;kept 1 2 3 4 5 6 7;off 3;device a single on 0 1;device b single on 1;"
                + "device c single on 0;",
                "start a;");
        x.raise(0, 0, false);
        act(x, "to its set", () -> x.unplug(0), 0);
        due("there", at(x, 0, 0), 100);
        due("pending, and without an old one", x.vector(1, 0, 3) * 10 + oldAt(x, 0, 0), 9);
        due("nothing is left", x.cpu(0, 1) * 10 + x.cpu(0, 3), 10);
        x.plug(0);
        Check.orders(x, "stop a;start a;start b;raise a 0;");
        due("a is on 0, b on 1", at(x, 0, 0) * 1000 + at(x, 1, 0), 100);
        act(x, "its set is full: to all", () -> x.unplug(0), 0);
        due("there", at(x, 0, 0), 200);
        due("pending", x.vector(2, 0, 3), 1);
        idle(x, "no room for b, since 3 is off", () -> x.unplug(1), 1);
        act(x, "3 comes", () -> x.plug(3), 0);
        act(x, "b goes to the last one", () -> x.unplug(1), 0);
        due("there", at(x, 1, 0), 300);
        // to the least loaded of its set, though others have less
        VectorDeal y = Check.made("cpus 4;vectors 8;device a single on 0 1 2;device b group 4 on 1;device c group 2 on 2;",
                "start a;start b;start c;");
        act(y, "the least of its set", () -> y.unplug(0), 0);
        due("2, not 3", at(y, 0, 0), 202);
        // an old one elsewhere stays
        VectorDeal z = Check.made("cpus 3;vectors 8;device a single;device b group 2 on 0;",
                "start a;start b;move a 0 to 1;raise a 0;late a 0;");
        act(z, "to the least load", () -> z.unplug(1), 0);
        due("2", at(z, 0, 0), 200);
        due("its old one stays", oldAt(z, 0, 0), 0);
        due("both pend", z.vector(0, 0, 3) * 10 + z.vector(2, 0, 3), 11);
    }

    /** (A group as a whole, at its LINE 0, behind the OLD ones of all of it.) */
    private static void unplugGroup() {
        VectorDeal x = Check.made("cpus 3;vectors 8;device g group 4 on 0;device s single on 1;", "start g;start s;raise g 0;raise g 3;");
        act(x, "as a whole", () -> x.unplug(0), 0);
        due("first", at(x, 0, 0), 200);
        due("last", at(x, 0, 3), 203);
        due("pending", x.vector(2, 0, 3) * 1000 + x.vector(2, 1, 3) * 100 + x.vector(2, 2, 3) * 10 + x.vector(2, 3, 3), 1001);
        VectorDeal y = Check.made("cpus 2;vectors 8;kept 0 5;device g group 2 on 0;device h group 2;device i group 2 on 1;"
                + "device j group 4 on 1;",
                "start g;start i;");
        due("g", at(y, 0, 0), 2);
        act(y, "the next block", () -> y.unplug(0), 0);
        due("from 6 on", at(y, 0, 0), 106);
        VectorDeal z = Check.made("cpus 2;vectors 8;kept 0 5 6;device g group 2 on 0;device i group 2 on 1;", "start g;start i;");
        due("three are free", z.cpu(1, 1), 3);
        idle(z, "but no block", () -> z.unplug(0), 1);
        // old ones of all of it, of which two pend, one MERGED
        VectorDeal old = Check.made("cpus 2;vectors 8;device g group 4 on 0;",
                "start g;raise g 1;raise g 2;move g 0 to 1;raise g 2;raise g 3;");
        act(old, "old ones", () -> old.unplug(0), 0);
        due("pending", old.vector(1, 0, 3) * 1000 + old.vector(1, 1, 3) * 100 + old.vector(1, 2, 3) * 10 + old.vector(1, 3, 3), 111);
        due("merged", old.device(0, 6), 1);
        due("free", old.cpu(0, 1), 8);
        // old and held ones on one CPU: to where old ones were brought, all is brought on
        VectorDeal twice = Check.made("cpus 3;vectors 8;device g group 2 on 0 1;device h group 8 on 2;",
                "start g;start h;move g 0 to 1;late g 1;raise g 0;");
        act(twice, "beside its old ones", () -> twice.unplug(1), 0);
        due("there", at(twice, 0, 0) * 1000 + oldAt(twice, 0, 0), 2000);
        twice.stop(1);
        act(twice, "then all of it", () -> twice.unplug(0), 0);
        due("there", at(twice, 0, 0), 200);
        due("no old ones", oldAt(twice, 0, 0) + oldAt(twice, 0, 1), 2 * NONE);
        due("both pend", twice.vector(2, 0, 3) * 10 + twice.vector(2, 1, 3), 11);
    }

    /**
     * A QUEUE: as in MOVE, to any of its CPUS (where its OLD one is, to that ..); SHUT, if none is ONLINE (what was
     * PENDING WAITS); else what was PENDING is PENDING there (MERGED, if it was).
     */
    private static void unplugQueue() {
        VectorDeal x = Check.made("cpus 4;vectors 8;device s single on 1;device m managed 1 on 0 1 2;device o managed 1 on 0;"
                + "device p managed 1 on 0;",
                "start s;start m;start o;start p;raise m 0;raise o 0;");
        act(x, "queues", () -> x.unplug(0), 0);
        due("the least loaded of its own, not 3", at(x, 1, 0), 200);
        due("pending there", x.vector(2, 0, 3), 1);
        due("what it held is reserved", x.vector(0, 0, 0) * 100 + x.vector(0, 0, 1) * 10 + x.vector(0, 0, 3), 410);
        due("shut, waits", x.line(2, 0, 0) * 10 + x.line(2, 0, 5), -9);
        due("shut, does not wait", x.line(3, 0, 0) * 10 + x.line(3, 0, 5), -10);
        due("reserved yet", x.cpu(0, 2), 3);
        due("nothing merged", x.about(8), 0);
        // where its old one is, which pends or not
        String board = "cpus 2;vectors 8;device m managed 1;";
        for (int pending = 0; pending < 4; pending++) {
            String late = pending % 2 == 1 ? "late m 0;" : "";
            String soon = pending / 2 == 1 ? "raise m 0;" : "";
            VectorDeal y = Check.made(board, "start m;move m 0 to 1;" + late + soon);
            act(y, "to its old one " + pending, () -> y.unplug(1), 0);
            due("it holds that", at(y, 0, 0) * 10 + y.vector(0, 0, 0), 2);
            due("and has no old one", oldAt(y, 0, 0), NONE);
            due("pending " + pending, y.vector(0, 0, 3), pending == 0 ? 0 : 1);
            due("merged " + pending, y.device(0, 6), pending == 3 ? 1 : 0);
            act(y, "may move again", () -> y.plug(1), 0);
            act(y, "moves", () -> y.move(0, 0, 2), 0);
        }
        // no FREE one is needed
        VectorDeal full = Check.made("cpus 2;vectors 8;kept 1 2 3 4 5 6 7;device m managed 1;", "start m;");
        act(full, "though none is free", () -> full.unplug(0), 0);
        due("there", at(full, 0, 0), 100);
    }

    /** 14: REFUSED 1, 2, 4, 5 (5 ahead of 1 and 2, 1 ahead of 2); NONE if there is no such CPU. */
    private static void unplugRefused() {
        VectorDeal x = Check.made("cpus 2;vectors 8;kept 0 1 2 3 4 5;device g group 2 on 0;device h group 2 on 1;device a single;"
                + "device b single;");
        for (int cpu : new int[] {-1, 2, 3, 8, 32, LEAST, GREATEST}) {
            idle(x, "unplug " + cpu, () -> x.unplug(cpu), NONE);
        }
        x.start(0);
        x.start(1);
        idle(x, "1: no room", () -> x.unplug(0), 1);
        x.stop(1);
        x.claim(2);
        x.claim(3);
        idle(x, "2: promises", () -> x.unplug(0), 2);
        idle(x, "2: of what is empty", () -> x.unplug(1), 2);
        x.stop(0);
        act(x, "as many as promised", () -> x.unplug(0), 0);
        idle(x, "4: not online", () -> x.unplug(0), 4);
        idle(x, "5: the only one, ahead of 2", () -> x.unplug(1), 5);
        x.undo();
        // 1 ahead of 2: no block for h, and too few for both promises
        VectorDeal y = Check.made("cpus 2;vectors 8;kept 0 1 2 3 4;device h group 2 on 0;device s single on 0;device t single on 1;"
                + "device i group 2;",
                "start h;start s;start t;claim i;");
        due("two are free on 1", y.cpu(1, 1), 2);
        idle(y, "1 ahead of 2", () -> y.unplug(0), 1);
        y.stop(0);
        idle(y, "2 alone", () -> y.unplug(0), 2);
        y.stop(1);
        act(y, "neither", () -> y.unplug(0), 0);
        idle(y, "5 ahead of 1", () -> y.unplug(1), 5);
        VectorDeal one = Check.made("cpus 1;device a single;", "start a;");
        idle(one, "5: of one", () -> one.unplug(0), 5);
        VectorDeal none = Check.made("cpus 2;off 0 1;");
        idle(none, "4: none is online", () -> none.unplug(0), 4);
        VectorDeal eight = Check.made("cpus 8;");
        for (int c = 7; c > 0; c--) {
            due("eight, one by one", eight.unplug(c), 0);
        }
        idle(eight, "5: the last of eight", () -> eight.unplug(0), 5);
    }

    /** REFUSED (nothing happens): what was brought away ahead of the one that has no room, too. */
    private static void unplugRefusedLeavesAll() {
        String board = "cpus 2;vectors 8;kept 0 1 2 3;device m managed 1;device o managed 1 on 0;device a single on 0;device b single on 0;"
                + "device t single on 1;device u single on 1;";
        VectorDeal x = Check.made(board, "start m;start o;start a;start b;start t;start u;raise m 0;raise o 0;raise a 0;raise b 0;");
        due("0 is full, 1 has one", x.cpu(0, 1) * 10 + x.cpu(1, 1), 1);
        idle(x, "m, o, a would go, b has no room", () -> x.unplug(0), 1);
        idle(x, "asked", () -> x.without(0, 0), 1);
        due("as an order", Check.orders(x, "tick 1;unplug 0;"), 1);
        due("refused", x.refused(), 1);
        due("nothing happened", x.about(3) * 100 + at(x, 2, 0) * 10 + x.cpu(0, 3), 363);
        x.stop(5);
        act(x, "room for all", () -> x.unplug(0), 0);
        due("a", at(x, 2, 0), 106);
        due("b", at(x, 3, 0), 107);
        // an OLD one that would be FREE, and MERGED what is PENDING
        VectorDeal y = Check.made("cpus 2;vectors 8;kept 0 1 2 3;device s single on 0;device a single on 0;device g group 2 on 0;"
                + "device t single on 1;",
                "start s;move s 0 to 1;late s 0;raise s 0;start a;start g;start t;raise a 0;");
        due("two are free on 1", y.cpu(1, 1), 2);
        idle(y, "s would be merged, a go, g has no block", () -> y.unplug(0), 1);
        y.stop(1);
        act(y, "room for all", () -> y.unplug(0), 0);
        due("merged", y.device(0, 6), 1);
        due("g", at(y, 2, 0), 106);
    }

    /** PLUG: it is ONLINE; each SHUT QUEUE that has it is HELD there; if it WAITS, it is PENDING there, and WAITS no more. */
    private static void plugOpensShut() {
        VectorDeal x = Check.made("cpus 4;vectors 8;off 1 2 3;device m managed 4;device n managed 2 on 2 3;device o managed 1 on 2 3;"
                + "device a single on 3;",
                "start m;start n;start o;raise m 1;raise m 2;raise o 0;raise o 0;");
        due("four wait or pend", x.about(13), 3);
        due("merged", x.about(8), 1);
        act(x, "plug 1", () -> x.plug(1), 0);
        due("queue 1 is there, and pends", at(x, 0, 1) * 10 + x.vector(1, 0, 3), 1001);
        due("and waits no more", x.line(0, 1, 5), 0);
        due("queue 2 is shut, and waits", x.line(0, 2, 0) * 10 + x.line(0, 2, 5), -9);
        due("queue 0 stays", at(x, 0, 0), 0);
        act(x, "plug 2", () -> x.plug(2), 0);
        due("queue 2 is there, and pends", at(x, 0, 2) * 10 + x.vector(2, 0, 3), 2001);
        due("n's queue 0, and does not pend", at(x, 1, 0) * 10 + x.vector(2, 1, 3), 2010);
        due("o's, and pends", at(x, 2, 0) * 10 + x.vector(2, 2, 3), 2021);
        act(x, "plug 3", () -> x.plug(3), 0);
        due("o's stays", at(x, 2, 0), 202);
        due("n's queue 1", at(x, 1, 1), 301);
        due("nothing merged by it", x.about(8), 1);
        due("none waits, three pend", x.about(13), 3);
        act(x, "all are heard", () -> x.tick(2), 3);
        due("one has its set now", x.start(3), 0);
    }

    /** PLUG .. REFUSED (4): it is ONLINE. 15: NONE if there is no such CPU. */
    private static void plugRefused() {
        VectorDeal x = Check.made("cpus 3;vectors 8;off 2;");
        for (int cpu : new int[] {-1, 3, 4, 8, 32, LEAST, GREATEST}) {
            idle(x, "plug " + cpu, () -> x.plug(cpu), NONE);
        }
        idle(x, "online", () -> x.plug(0), 4);
        act(x, "the last one", () -> x.plug(2), 0);
        idle(x, "online now", () -> x.plug(2), 4);
        x.unplug(2);
        act(x, "it comes again", () -> x.plug(2), 0);
        VectorDeal none = Check.made("cpus 1;off 0;");
        act(none, "the first", () -> none.plug(0), 0);
        due("online", none.about(3), 1);
    }

    /** (3) an OLD one of the DEVICE's LINE (of a group: of any of it): not one of another LINE or DEVICE. */
    private static void neighboursAreNotMeant() {
        VectorDeal x = Check.made("cpus 2;vectors 32;device g group 8 on 0;device h group 8 on 0;device a single on 0;device m managed 1;"
                + "device b single on 0;",
                "start g;start h;start a;start b;start m;move h 0 to 1;");
        act(x, "the one behind it has old ones", () -> x.move(0, 0, 2), 0);
        idle(x, "now it has", () -> x.move(0, 7, 2), 3);
        act(x, "the one ahead of it has old ones", () -> x.move(2, 0, 2), 0);
        VectorDeal y = Check.made("cpus 4;vectors 8;device m managed 2;", "start m;");
        act(y, "queue 1", () -> y.move(0, 1, 8), 0);
        act(y, "queue 0, too", () -> y.move(0, 0, 2), 0);
        idle(y, "queue 0 has an old one", () -> y.move(0, 0, 1), 3);
        Check.orders(y, "raise m 0;tick 1;");
        act(y, "and has none", () -> y.move(0, 0, 1), 0);
        idle(y, "queue 1 has one yet", () -> y.move(0, 1, 4), 3);
        // stop and raise of one leave another
        VectorDeal z = Check.made("cpus 1;vectors 32;device g group 8;device h group 8;device i group 8;",
                "start g;start h;start i;raise g 7;raise i 0;raise h 0;raise h 7;");
        act(z, "stop of the one between", () -> z.stop(1), 2);
        due("the others pend", z.vector(0, 7, 3) * 10 + z.vector(0, 16, 3), 11);
        due("the others hold", at(z, 0, 7) * 100 + at(z, 2, 0), 716);
        due("all that is free", z.about(4), 16);
    }

    /** device, 10 at most; cpus 8, vectors 32, LINES 8: the last of all. */
    private static void theTenthOfEightLines() {
        String nine = "";
        for (char c = 'a'; c < 'j'; c++) {
            nine += "device " + c + " single on 0;";
        }
        String kept = "kept 0 1 2 3 4 5 6 7 8 9 10 11 12 13 14 15 16 17 18 19 20 21 22 23;";
        VectorDeal x = Check.made("cpus 8;vectors 32;" + kept + nine + "device j group 8 on 7;", "start j;raise j 7;");
        due("at the last vectors", at(x, 9, 7), 731);
        act(x, "moves", () -> x.move(9, 7, 64), 0);
        due("old", oldAt(x, 9, 7), 731);
        act(x, "late", () -> x.raise(9, 7, true), 0);
        act(x, "the new one", () -> x.raise(9, 7, false), 1);
        act(x, "heard", () -> x.tick(1), 2);
        due("by the old one", x.log(0, 0) * 10_000 + x.log(0, 1) * 1000 + x.log(0, 2) * 100 + x.log(0, 3) + x.log(0, 4), 97_732);
        due("by the new one", x.log(1, 0) * 10_000 + x.log(1, 1) * 1000 + x.log(1, 2) * 100 + x.log(1, 3) + x.log(1, 4), 97_631);
        due("drained", oldAt(x, 9, 7), NONE);
        due("not drained", oldAt(x, 9, 6), 730);
        act(x, "its old ones' cpu leaves", () -> x.unplug(7), 0);
        due("no old ones", oldAt(x, 9, 6), NONE);
        act(x, "its cpu leaves", () -> x.unplug(6), 0);
        due("to the least, since its set is off", at(x, 9, 0) * 100 + at(x, 9, 7), 2431);
        x.raise(9, 0, false);
        x.raise(9, 7, false);
        act(x, "stop", () -> x.stop(9), 2);
        VectorDeal y = Check.made("cpus 8;vectors 32;off 7 6;" + kept + nine + "device j managed 8;", "start j;raise j 7;");
        due("the last queue is shut, and waits", y.line(9, 7, 0) * 10 + y.line(9, 7, 5), -9);
        act(y, "plug", () -> y.plug(7), 0);
        due("the one ahead of it is shut yet", y.line(9, 6, 0), NONE);
        due("held there", at(y, 9, 7) * 10 + y.vector(7, 24, 3), 7241);
        act(y, "unplug", () -> y.unplug(7), 0);
        act(y, "stop", () -> y.stop(9), 1);
    }

    /** ACTS are .. that are not REFUSED, and ORDERS of which one was done at least (one ACT). 16, 17: true; false if there is none. */
    private static void everyActIsTakenBack() {
        VectorDeal x = Check.made("cpus 3;vectors 8;off 2;device a single;device g group 2;device m managed 3;");
        CHECK.due("nothing to undo", x.undo(), false);
        CHECK.due("nothing to redo", x.redo(), false);
        act(x, "claim", () -> x.claim(0), 0);
        act(x, "start of what was promised", () -> x.start(0), 0);
        act(x, "start", () -> x.start(1), 0);
        act(x, "start of queues", () -> x.start(2), 0);
        act(x, "raise of a shut one", () -> x.raise(2, 2, false), 1);
        act(x, "raise", () -> x.raise(1, 1, false), 1);
        act(x, "merged", () -> x.raise(1, 1, true), 0);
        act(x, "move", () -> x.move(1, 0, 1), 0);
        act(x, "late", () -> x.raise(1, 1, true), 0);
        act(x, "plug", () -> x.plug(2), 0);
        act(x, "ticks", () -> x.tick(3), 2);
        act(x, "unplug", () -> x.unplug(1), 0);
        act(x, "orders", () -> Check.orders(x, "raise a 0;raise a 0;tick 1;raise m 0;stop a;start a;"), 6);
        act(x, "orders that end", () -> Check.orders(x, "tick 1;raise m 0;start a;tick 1;"), 2);
        act(x, "stop", () -> x.stop(2), 1);
        CHECK.due("nothing to redo", x.redo(), false);
        String before = Check.whole(x);
        due("orders of none", Check.orders(x, "start a;") + Check.orders(x, ""), 0);
        CHECK.same("no act", Check.whole(x).replaceAll("refused.*", ""), before.replaceAll("refused.*", ""));
        int undone = 0;
        while (x.undo()) {
            undone++;
        }
        due("all taken back", undone, 15);
        CHECK.same("as at first", Check.state(x), Check.state(Check.made("cpus 3;vectors 8;off 2;device a single;device g group 2;"
                + "device m managed 3;")));
    }

    /** 16 at most are kept, the oldest go. */
    private static void sixteenAreKept() {
        VectorDeal x = new VectorDeal();
        for (int n = 1; n <= 40; n++) {
            x.tick(1);
            due("kept behind " + n, x.about(10), Math.min(n, 16));
        }
        for (int n = 1; n <= 16; n++) {
            CHECK.due("undo " + n, x.undo(), true);
            due("ticks", x.about(6), 40 - n);
            due("to undo and to redo", x.about(10) * 100 + x.about(11), (16 - n) * 100 + n);
        }
        CHECK.due("no more", x.undo(), false);
        due("ticks", x.about(6), 24);
        for (int n = 1; n <= 16; n++) {
            CHECK.due("redo " + n, x.redo(), true);
            due("ticks again", x.about(6), 24 + n);
        }
        CHECK.due("no more again", x.redo(), false);
        x.undo();
        x.tick(2);
        due("sixteen yet", x.about(10), 16);
        x.tick(3);
        due("the oldest goes", x.about(10), 16);
        due("ticks", x.about(6), 44);
        int undone = 0;
        while (x.undo()) {
            undone++;
        }
        due("sixteen", undone, 16);
        due("as it was", x.about(6), 25);
    }

    /** REDO does that again which was taken back last (till another ACT). */
    private static void redoTillAnotherAct() {
        VectorDeal x = Check.made("cpus 2;vectors 8;device a single;device b single;");
        x.tick(1);
        x.tick(2);
        x.tick(4);
        x.undo();
        x.undo();
        CHECK.due("the last that was taken back", x.redo(), true);
        due("two more", x.about(6), 3);
        x.undo();
        x.undo();
        due("three can be", x.about(11), 3);
        idle(x, "refused", () -> x.stop(0), NONE);
        idle(x, "asked", () -> x.storm(1, 100, 0), 0);
        idle(x, "no tick", () -> x.tick(0), NONE);
        CHECK.due("redo", x.redo(), true);
        x.start(0);
        due("none can be", x.about(11), 0);
        CHECK.due("no redo", x.redo(), false);
        CHECK.due("undo start", x.undo(), true);
        CHECK.due("redo start", x.redo(), true);
        due("started", x.device(0, 3), 1);
        due("two to undo", x.about(10), 2);
    }
}
