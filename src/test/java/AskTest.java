/** Promises 18 to 35: what is asked, images, and that asking changes nothing. */
public final class AskTest {
    private static final Check CHECK = new Check("AskTest");
    private static final int NONE = VectorDeal.NONE;

    public static void main(String[] args) {
        promise18Cpu();
        promise19Vector();
        promise20Device();
        promise21Line();
        promise22Spread();
        promise23Room();
        promise24Balance();
        promise25Clear();
        promise26Without();
        promise27Storm();
        promise27StormByHand();
        promise28Quiet();
        promise29Nearest();
        promise30Log();
        promise31Alike();
        promise32Law();
        promise33And34Images();
        promise35About();
        askingChangesNothing();
        CHECK.finish();
    }

    private static void due(String what, long got, long want) {
        CHECK.due(what, got, want);
    }

    private static void promise18Cpu() {
        VectorDeal x = Check.made("cpus 3;vectors 12;kept 0;off 2;device a single on 0;device g group 4 on 0;device m managed 1 on 0 1;",
                "start a;start g;start m;move a 0 to 1;late a 0;raise g 0;raise m 0;tick 1;");
        // cpu 0: kept 0, old 1, reserved or held 2, group 4 .. 7; cpu 1: m at 1, a at 2
        due("18 load", x.cpu(0, 0), 5);
        due("18 free", x.cpu(0, 1), 12 - 1 - 6);
        due("18 reserved", x.cpu(0, 2), 1);
        due("18 pending", x.cpu(0, 3), 1);
        due("18 online", x.cpu(0, 4), 1);
        due("18 block", x.cpu(0, 5), 4);
        due("18 handled", x.cpu(0, 6), 1);
        due("18 load of 1", x.cpu(1, 0), 2);
        due("18 reserved of 1", x.cpu(1, 2), 0);
        due("18 handled of 1", x.cpu(1, 6), 1);
        due("18 no eight from a multiple of eight", x.cpu(1, 5), 4);
        due("18 not online", x.cpu(2, 4), 0);
        due("18 free off line", x.cpu(2, 1), 11);
        due("18 other what", x.cpu(0, 7), NONE);
        due("18 what below 0", x.cpu(0, -1), NONE);
        due("18 no cpu", x.cpu(3, 0), NONE);
        due("18 cpu below 0", x.cpu(-1, 0), NONE);
        due("18 eight", Check.made("vectors 16;kept 7;").cpu(0, 5), 8);
        due("18 two", Check.made("vectors 8;kept 1 4;").cpu(0, 5), 2);
        due("18 one", Check.made("vectors 8;kept 1 3 4 6;").cpu(0, 5), 1);
        due("18 none", Check.made("vectors 8;kept 0 1 2 3 4 5 6 7;").cpu(0, 5), 0);
        due("18 all of 32", Check.made("vectors 32;").cpu(0, 1), 32);
    }

    private static void promise19Vector() {
        VectorDeal x = Check.made("cpus 2;vectors 8;kept 7;device a single on 0;device g group 2 on 0;device m managed 2 on 0 1;",
                "start a;start g;start m;move g 1 to 1;late g 1;");
        due("19 free", x.vector(0, 5, 0), 0);
        due("19 free has no device", x.vector(0, 5, 1), NONE);
        due("19 free has no line", x.vector(0, 5, 2), NONE);
        due("19 kept", x.vector(0, 7, 0), 1);
        due("19 kept has no device", x.vector(1, 7, 1), NONE);
        due("19 held", x.vector(0, 0, 0), 2);
        due("19 device", x.vector(0, 0, 1), 0);
        due("19 line", x.vector(0, 0, 2), 0);
        due("19 old", x.vector(0, 3, 0), 3);
        due("19 its device", x.vector(0, 3, 1), 1);
        due("19 its line", x.vector(0, 3, 2), 1);
        due("19 pending", x.vector(0, 3, 3), 1);
        due("19 not pending", x.vector(0, 2, 3), 0);
        due("19 new", x.vector(1, 3, 0) * 100 + x.vector(1, 3, 1) * 10 + x.vector(1, 3, 2), 211);
        due("19 queue 1", x.vector(1, 0, 0) * 100 + x.vector(1, 0, 1) * 10 + x.vector(1, 0, 2), 221);
        x.unplug(1);
        due("19 reserved", x.vector(1, 0, 0) * 100 + x.vector(1, 0, 1) * 10 + x.vector(1, 0, 2), 421);
        due("19 other what", x.vector(0, 0, 4), NONE);
        due("19 what below 0", x.vector(0, 0, -1), NONE);
        due("19 no vector", x.vector(0, 8, 0), NONE);
        due("19 vector below 0", x.vector(0, -1, 0), NONE);
        due("19 no cpu", x.vector(2, 0, 0), NONE);
        due("19 cpu below 0", x.vector(-1, 0, 0), NONE);
        due("19 the last of 32", Check.made("vectors 32;kept 31;").vector(3, 31, 0), 1);
    }

    private static void promise20Device() {
        VectorDeal x = Check.made("cpus 3;device a single on 2;device g group 8;device m managed 5 on 0 2;",
                "start a;claim g;start m;raise a 0;raise a 0;raise a 0;tick 1;raise m 4;raise m 2;stop m;");
        due("20 one", x.device(0, 0), 1);
        due("20 group", x.device(1, 0), 2);
        due("20 managed", x.device(2, 0), 3);
        due("20 lines", x.device(0, 1) * 100 + x.device(1, 1) * 10 + x.device(2, 1), 185);
        due("20 set", x.device(0, 2) * 100 + x.device(1, 2) * 10 + x.device(2, 2), 475);
        due("20 started", x.device(0, 3) * 100 + x.device(1, 3) * 10 + x.device(2, 3), 100);
        due("20 promised", x.device(0, 4) * 100 + x.device(1, 4) * 10 + x.device(2, 4), 10);
        due("20 delivered", x.device(0, 5), 1);
        due("20 merged", x.device(0, 6), 2);
        due("20 dropped", x.device(2, 7), 2);
        x.stop(0);
        x.start(0);
        due("20 since board()", x.device(0, 5) * 10 + x.device(0, 6), 12);
        due("20 other what", x.device(0, 8), NONE);
        due("20 what below 0", x.device(0, -1), NONE);
        due("20 no device", x.device(3, 0), NONE);
        due("20 device below 0", x.device(-1, 0), NONE);
    }

    private static void promise21Line() {
        VectorDeal x = Check.made("cpus 2;vectors 8;device a single on 0;device g group 2 on 1;device m managed 1 on 1;device z single on 0;",
                "start z;start a;start g;start m;");
        due("21 cpu", x.line(1, 1, 0), 1);
        due("21 vector", x.line(1, 1, 1), 1);
        due("21 no old cpu", x.line(1, 1, 2), NONE);
        due("21 no old vector", x.line(1, 1, 3), NONE);
        due("21 nothing drains", x.line(1, 1, 4), 0);
        due("21 does not wait", x.line(1, 1, 5), 0);
        x.move(0, 0, 2);
        due("21 old cpu", x.line(0, 0, 2), 0);
        due("21 old vector", x.line(0, 0, 3), 1);
        x.raise(0, 0, true);
        x.raise(0, 0, false);
        x.raise(3, 0, false);
        x.tick(1);
        due("21 gone at once", x.line(0, 0, 4) * 10 + x.line(0, 0, 2), -1);
        x.unplug(1);
        due("21 shut cpu", x.line(2, 0, 0), NONE);
        due("21 shut vector", x.line(2, 0, 1), NONE);
        due("21 shut does not wait", x.line(2, 0, 5), 0);
        x.raise(2, 0, false);
        due("21 waits", x.line(2, 0, 5), 1);
        due("21 no line", x.line(1, 2, 0), NONE);
        due("21 line below 0", x.line(1, -1, 0), NONE);
        due("21 no device", x.line(4, 0, 0), NONE);
        due("21 device below 0", x.line(-1, 0, 0), NONE);
        due("21 other what", x.line(1, 0, 6), NONE);
        due("21 what below 0", x.line(1, 0, -1), NONE);
        x.stop(1);
        for (int what = 0; what <= 5; what++) {
            due("21 not started " + what, x.line(1, 0, what), NONE);
        }
    }

    private static void promise22Spread() {
        VectorDeal x = Check.made("cpus 8;device a managed 3;device b managed 8;device c managed 5 on 6 1 3;device d managed 2 on 7 2 5;"
                + "device e group 2;");
        // i * 3 / 8: 0 0 0 1 1 1 2 2
        due("22 of 3 on 8", x.spread(0, 0) * 1000000 + x.spread(0, 1) * 1000 + x.spread(0, 2), 7 * 1000000 + 56 * 1000 + 192);
        for (int q = 0; q < 8; q++) {
            due("22 one each " + q, x.spread(1, q), 1 << q);
        }
        // q modulo 3 of cpus 1 3 6
        int[] wants = {2, 8, 64, 2, 8};
        for (int q = 0; q < 5; q++) {
            due("22 of 5 on 3 " + q, x.spread(2, q), wants[q]);
        }
        // cpus 2 5 7: i * 2 / 3 is 0 0 1
        due("22 queue 0", x.spread(3, 0), 4 + 32);
        due("22 queue 1", x.spread(3, 1), 128);
        due("22 no queue", x.spread(3, 2), 0);
        due("22 queue below 0", x.spread(3, -1), 0);
        due("22 a group", x.spread(4, 0), 0);
        due("22 no device", x.spread(5, 0), 0);
        due("22 device below 0", x.spread(-1, 0), 0);
    }

    private static void promise23Room() {
        VectorDeal x = Check.made("cpus 3;vectors 12;kept 5;off 2;device a single;device g group 4;device h group 8;");
        due("23 one", x.room(1), 22);
        due("23 two", x.room(2), 10);
        due("23 four", x.room(4), 4);
        due("23 eight", x.room(8), 0);
        x.claim(1);
        due("23 less what is promised", x.room(1), 18);
        due("23 by blocks", x.room(2), 9);
        due("23 by blocks of four", x.room(4), 4);
        x.claim(2);
        due("23 of four, promised", x.room(4), 2);
        x.start(0);
        due("23 less one", x.room(1), 9);
        for (int n : new int[] {0, 3, 5, 6, 7, 9, 16, -1, Integer.MIN_VALUE, Integer.MAX_VALUE}) {
            due("23 no such " + n, x.room(n), NONE);
        }
        VectorDeal y = Check.made("cpus 2;vectors 8;kept 0 1 2 3 4 5;device a single;device g group 2;device b single;",
                "start a;claim g;claim b;move a 0 to 1;");
        due("23 fewer than promised", y.room(1), 0);
        due("23 none online", Check.made("cpus 1;off 0;").room(1), 0);
    }

    private static void promise24Balance() {
        VectorDeal x = Check.made("cpus 3;vectors 8;off 2;device g group 4 on 0;device a single on 1;");
        due("24 none", x.balance(), 0);
        x.start(0);
        due("24 gap", x.balance(), 4);
        x.start(1);
        due("24 less", x.balance(), 3);
        x.move(1, 0, 1);
        due("24 old ones count", x.balance(), 4);
        x.unplug(1);
        due("24 one online", x.balance(), 0);
        due("24 none online", Check.made("cpus 2;off 0 1;").balance(), 0);
    }

    private static void promise25Clear() {
        VectorDeal x = Check.made("cpus 2;vectors 8;device a single on 0;device b single on 0;device g group 2 on 0;device c single on 1;"
                + "device d single on 1;device e single on 1;device f single on 1;device m managed 1 on 1;", "start a;start b;start g;start c;start d;start e;start f;start m;");
        // cpu 0: a b g g - - - -; cpu 1: c d e f m - - -
        due("25 two", x.clear(2, 0) * 100 + x.clear(2, 1) * 10 + x.clear(2, 2), 4);
        due("25 four", x.clear(4, 0) * 100 + x.clear(4, 1) * 10 + x.clear(4, 2), 4);
        due("25 eight", x.clear(8, 0), NONE);
        due("25 eight has no cpu", x.clear(8, 1), NONE);
        due("25 eight has no vector", x.clear(8, 2), NONE);
        x.unplug(0);
        // a b are dealt to 5 6 of cpu 1, and there is no room for g: nothing happens
        due("25 refused", x.about(3), 3);
        VectorDeal y = Check.made("cpus 3;vectors 8;kept 4;off 2;device a single on 0;device b single on 0;device c single on 1;device g group 2 on 0;",
                "start a;start b;start c;start g;");
        // cpu 0: a b g g K - - -; cpu 1: c - - - K - - -
        due("25 fewest", y.clear(4, 0), 1);
        due("25 cpu", y.clear(4, 1), 1);
        due("25 vector", y.clear(4, 2), 0);
        due("25 the least free", y.clear(2, 1) * 10 + y.clear(2, 2), 6);
        y.move(2, 0, 1);
        due("25 old ones can't go", y.clear(4, 0), NONE);
        y.plug(2);
        due("25 online", y.clear(4, 0) * 100 + y.clear(4, 1) * 10 + y.clear(4, 2), 20);
        for (int n : new int[] {-1, 0, 1, 3, 5, 6, 7, 9, 16}) {
            due("25 no such " + n, y.clear(n, 0), NONE);
        }
        due("25 other what", y.clear(2, 3), NONE);
        due("25 what below 0", y.clear(2, -1), NONE);
        due("25 none online", Check.made("cpus 1;off 0;").clear(2, 0), NONE);
        // the held one of a line with an old one elsewhere can't go either
        VectorDeal z = Check.made("cpus 2;vectors 8;kept 2 3 4 5 6 7;device a single on 0;", "start a;move a 0 to 1;");
        due("25 neither of them", z.clear(2, 0), NONE);
        z.raise(0, 0, false);
        z.tick(1);
        due("25 free now", z.clear(2, 0) * 100 + z.clear(2, 1) * 10 + z.clear(2, 2), 0);
    }

    private static void promise26Without() {
        VectorDeal x = Check.made("cpus 3;vectors 8;off 2;device a single on 0;device g group 4 on 0;device m managed 1 on 0;device b single on 1;"
                + "device p group 8;", "start a;start g;start m;start b;");
        due("26 not refused", x.without(0, 0), 0);
        due("26 lines, shut ones too", x.without(0, 1), 6);
        due("26 of another", x.without(1, 1), 1);
        due("26 not online", x.without(2, 0), 4);
        due("26 none then", x.without(2, 1), 0);
        x.move(3, 0, 1);
        due("26 old ones have no other cpu", x.without(1, 1), 0);
        due("26 and it can be", x.without(1, 0), 0);
        due("26 nothing is done", x.about(3), 3);
        x.undo();
        x.stop(0);
        due("26 promised", x.claim(4), 0);
        due("26 by promises", x.without(0, 0), 2);
        due("26 none by promises", x.without(0, 1), 0);
        due("26 no cpu", x.without(3, 0), NONE);
        due("26 cpu below 0", x.without(-1, 0), NONE);
        due("26 other what", x.without(0, 2), NONE);
        due("26 what below 0", x.without(0, -1), NONE);
        due("26 the only one", Check.made("cpus 1;").without(0, 0), 5);
        VectorDeal y = Check.made("cpus 2;vectors 8;kept 0 1 2 3;device g group 4;device h group 4;", "start g;start h;");
        due("26 no room", y.without(0, 0), 1);
        due("26 none for no room", y.without(0, 1), 0);
    }

    private static void promise27Storm() {
        VectorDeal x = Check.made("cpus 2;vectors 8;device a single on 0;device g group 2 on 0;device m managed 1 on 1;", "start a;start g;start m;raise a 0;");
        due("27 none", x.storm(5, 0, 0) + x.storm(5, 0, 1) + x.storm(5, 0, 2), 0);
        due("27 yet", x.storm(5, 0, 3), 1);
        int delivered = x.storm(5, 500, 0);
        int merged = x.storm(5, 500, 1);
        due("27 something is delivered", delivered > 0 ? 1 : 0, 1);
        due("27 something is merged", merged > 0 ? 1 : 0, 1);
        due("27 nothing is done", x.about(6) + x.about(7) + x.about(8), 0);
        due("27 no act", x.about(10), 1);
        due("27 seed below 0", x.storm(-1, 1, 0), NONE);
        due("27 seed too great", x.storm(10000, 1, 0), NONE);
        due("27 greatest seed", x.storm(9999, 1, 0) == NONE ? 1 : 0, 0);
        due("27 n below 0", x.storm(0, -1, 0), NONE);
        due("27 n too great", x.storm(0, 501, 0), NONE);
        due("27 other what", x.storm(0, 1, 4), NONE);
        due("27 what below 0", x.storm(0, 1, -1), NONE);
        VectorDeal none = Check.made("cpus 2;device a single;");
        for (int what = 0; what <= 3; what++) {
            due("27 nothing started " + what, none.storm(17, 500, what), 0);
        }
    }

    /** One line: every draw that is no TICK raises it, so that the answers can be counted by hand. */
    private static void promise27StormByHand() {
        VectorDeal x = Check.made("cpus 1;device a single;", "start a;");
        int seed = 0;
        int delivered = 0;
        int merged = 0;
        int most = 0;
        boolean pending = false;
        for (int n = 1; n <= 60; n++) {
            seed = (seed * 137 + 71) % 10007;
            if (seed % 4 == 0) {
                delivered += pending ? 1 : 0;
                pending = false;
            } else {
                seed = (seed * 137 + 71) % 10007;
                merged += pending ? 1 : 0;
                pending = true;
            }
            most = Math.max(most, pending ? 1 : 0);
            due("27 delivered by " + n, x.storm(0, n, 0), delivered);
            due("27 merged by " + n, x.storm(0, n, 1), merged);
            due("27 most by " + n, x.storm(0, n, 2), most);
            due("27 yet by " + n, x.storm(0, n, 3), pending ? 1 : 0);
        }
        // shut: it waits
        VectorDeal y = Check.made("cpus 2;off 1;device m managed 1 on 1;", "start m;");
        due("27 waits", y.storm(0, 1, 3), 1);
        due("27 is never delivered", y.storm(0, 500, 0), 0);
        // seed 0 draws 71 (no TICK) and 9798 (LINE 0 of 2), then 1459 (no TICK) and 9821 (LINE 1 of 2)
        VectorDeal z = Check.made("cpus 1;device g group 2;", "start g;");
        due("27 one line", z.storm(0, 1, 2), 1);
        due("27 both lines", z.storm(0, 2, 2), 2);
        due("27 none merged", z.storm(0, 2, 1), 0);
    }

    private static void promise28Quiet() {
        VectorDeal x = Check.made("cpus 3;vectors 8;device g group 4 on 0;device h group 2 on 1;device m managed 1 on 2;", "start g;start h;start m;");
        due("28 nothing", x.quiet(), 0);
        Check.orders(x, "raise g 0;raise g 1;raise g 3;raise h 0;raise h 1;raise m 0;");
        due("28 the longest", x.quiet(), 3);
        x.tick(1);
        due("28 one less", x.quiet(), 2);
        x.tick(2);
        due("28 all quiet", x.quiet(), 0);
        x.unplug(2);
        x.raise(2, 0, false);
        due("28 what waits does not count", x.quiet(), 0);
        due("28 although it waits", x.about(13), 1);
    }

    private static void promise29Nearest() {
        VectorDeal x = Check.made("cpus 1;vectors 8;device a single;device b group 8;device c group 4;device d group 2;device e group 2;device f single;");
        due("29 like ones: the first", x.nearest(), 1);
        x.start(0);
        due("29 the fewest", x.nearest(), 2);
        x.start(2);
        due("29 those that are not started", x.nearest(), 3);
        x.start(3);
        x.start(5);
        // a f d d c c c c: two of e must go
        due("29 by what must go", x.nearest(), 4);
        due("29 so many", x.clear(2, 0), 2);
        x.start(4);
        x.stop(0);
        due("29 d and c hold the rest, one must go", x.nearest(), 4);
        VectorDeal y = Check.made("cpus 1;vectors 8;kept 0 2 4 6;device g group 2;");
        due("29 none can", y.nearest(), NONE);
        due("29 no groups", Check.made("device a single;device m managed 2;").nearest(), NONE);
        VectorDeal z = Check.made("cpus 1;device g group 2;", "start g;");
        due("29 all started", z.nearest(), NONE);
    }

    private static void promise30Log() {
        VectorDeal x = Check.made("cpus 2;vectors 8;device a single on 0;device g group 4 on 1;", "start a;start g;");
        due("30 none", x.log(0, 0), NONE);
        x.raise(1, 3, false);
        x.tick(1);
        due("30 device", x.log(0, 0), 1);
        due("30 line", x.log(0, 1), 3);
        due("30 cpu", x.log(0, 2), 1);
        due("30 vector", x.log(0, 3), 3);
        due("30 not by an old one", x.log(0, 4), 0);
        due("30 no second", x.log(1, 0), NONE);
        Check.orders(x, "move a 0 to 1;late a 0;tick 1;");
        due("30 latest", x.log(0, 0), 0);
        due("30 by an old one", x.log(0, 4), 1);
        due("30 at the old one", x.log(0, 2) * 10 + x.log(0, 3), 0);
        due("30 the one before", x.log(1, 1), 3);
        for (int i = 0; i < 39; i++) {
            x.raise(1, i % 4, false);
            x.tick(1);
        }
        due("30 forty", x.log(39, 0), 0);
        due("30 no more", x.log(40, 0), NONE);
        x.raise(1, 2, false);
        x.tick(1);
        due("30 the oldest went", x.log(39, 0) * 10 + x.log(39, 1), 10);
        due("30 delivered", x.about(7), 42);
        x.undo();
        due("30 as before", x.log(39, 0), 0);
        due("30 k below 0", x.log(-1, 0), NONE);
        due("30 other what", x.log(0, 5), NONE);
        due("30 what below 0", x.log(0, -1), NONE);
        due("30 great k", x.log(Integer.MAX_VALUE, 0), NONE);
    }

    private static void promise31Alike() {
        VectorDeal x = Check.made("cpus 8;device nic single;device nicab single;device nvmeabc single;device nvmeabd single;device n single;device z single;");
        for (int d = 0; d < 6; d++) {
            x.start(d);
            due("31 none yet", x.alike(d, 1), 0);
        }
        for (int round = 0; round < 3; round++) {
            for (int d = round; d < 6; d++) {
                x.raise(d, 0, false);
            }
            x.tick(1);
        }
        // nic 1, nicab 2, nvmeabc 3, nvmeabd 3, n 3, z 3
        due("31 n", x.alike(0, 1), 12);
        due("31 ni", x.alike(0, 2), 3);
        due("31 nic", x.alike(0, 3), 3);
        due("31 all of nic", x.alike(0, 7), 3);
        due("31 nica", x.alike(1, 4), 2);
        due("31 nvmeab", x.alike(2, 6), 6);
        due("31 nvmeabc", x.alike(2, 7), 3);
        due("31 nvmeabd", x.alike(3, 7), 3);
        due("31 n", x.alike(4, 5), 12);
        due("31 z", x.alike(5, 1), 3);
        due("31 none", x.alike(0, 0), NONE);
        due("31 too many", x.alike(0, 8), NONE);
        due("31 below 0", x.alike(0, -1), NONE);
        due("31 no device", x.alike(6, 1), NONE);
        due("31 device below 0", x.alike(-1, 1), NONE);
        for (int i = 0; i < 45; i++) {
            x.raise(5, 0, false);
            x.tick(1);
        }
        due("31 of those kept", x.alike(5, 1), 40);
        due("31 others went", x.alike(0, 1), 0);
    }

    private static void promise32Law() {
        VectorDeal x = Check.made("cpus 3;vectors 8;kept 0;off 2;device a single;device g group 2;device m managed 4;device o managed 2 on 1 2;");
        String[] steps = {"start a;start g;start m;start o;", "raise a 0;move a 0 to 0 1;late a 0;", "move g 0 to 0 1;move m 0 to 0 1 2;",
            "raise g 1;raise m 3;tick 1;", "unplug 1;", "plug 2;", "raise o 0;unplug 0;", "plug 1;stop g;", "stop m;stop o;stop a;"};
        due("32 at first", x.law(), 0);
        for (String step : steps) {
            Check.orders(x, step);
            due("32 behind " + step, x.law(), 0);
        }
        while (x.undo()) {
            due("32 undone", x.law(), 0);
        }
    }

    private static void promise33And34Images() {
        VectorDeal x = Check.made("cpus 2;vectors 8;device a single;device m managed 2;device g group 4;", "start a;start m;");
        due("33 no box", x.image(2), NONE);
        due("33 below 0", x.image(-1), NONE);
        due("34 nothing was", x.back(0), NONE);
        due("34 no box", x.back(2), NONE);
        due("34 below 0", x.back(-1), NONE);
        due("34 nothing done", x.about(10), 1);
        due("33 held", x.image(0), 3);
        due("33 no act", x.about(10), 1);
        Check.orders(x, "start g;raise g 0;raise a 0;tick 1;move a 0 to 1;claim a;");
        due("33 another box", x.image(1), 7);
        due("34 back", x.back(0), 3);
        due("34 nothing kept", x.about(10) + x.about(11), 0);
        due("34 no undo", x.undo() ? 1 : 0, 0);
        due("34 no tick", x.about(6) + x.about(7), 0);
        due("34 no log", x.log(0, 0), NONE);
        due("34 g is not started", x.device(2, 3), 0);
        due("34 a has no old one", x.line(0, 0, 2), NONE);
        due("34 the other", x.back(1), 7);
        due("34 ticks", x.about(6), 1);
        due("34 old", x.line(0, 0, 2), 0);
        due("34 log", x.log(0, 0), 2);
        x.unplug(1);
        x.raise(1, 1, false);
        due("33 shut ones are not held", x.image(0), 6);
        x.undo();
        due("34 behind an undo", x.back(0), 6);
        due("34 no redo", x.redo() ? 1 : 0, 0);
        due("34 waits", x.line(1, 1, 5), 1);
        due("34 online", x.about(3), 1);
        due("34 again", x.back(1), 7);
        due("34 online", x.about(3), 3);
        x.tick(1);
        due("34 box is as it was", x.back(1), 7);
        due("34 ticks as they were", x.about(6), 1);
    }

    private static void promise35About() {
        VectorDeal x = Check.made("cpus 3;vectors 8;kept 1;off 1;device a single on 0;device m managed 1 on 1;device g group 4;",
                "start a;start m;raise a 0;raise a 0;tick 2;raise a 0;raise m 0;claim g;");
        x.undo();
        x.redo();
        x.stop(0);
        x.undo();
        x.feed(0, 0, 0, 0, 0);
        due("35 cpus", x.about(0), 3);
        due("35 vectors", x.about(1), 8);
        due("35 devices", x.about(2), 3);
        due("35 online", x.about(3), 5);
        due("35 free ones of these", x.about(4), 13);
        due("35 promised", x.about(5), 4);
        due("35 ticks", x.about(6), 2);
        due("35 delivered", x.about(7), 1);
        due("35 merged", x.about(8), 1);
        due("35 dropped", x.about(9), 0);
        due("35 to undo", x.about(10), 1);
        due("35 to redo", x.about(11), 1);
        due("35 tape", x.about(12), 20);
        due("35 pending and waiting", x.about(13), 2);
        due("35 other what", x.about(14), NONE);
        due("35 below 0", x.about(-1), NONE);
        x.redo();
        due("35 dropped again", x.about(9), 1);
        due("35 to undo again", x.about(10), 2);
        due("35 waiting", x.about(13), 1);
    }

    private static void askingChangesNothing() {
        VectorDeal x = Check.made("cpus 2;vectors 8;device a single;device g group 2;device m managed 2;", "start a;start m;raise a 0;raise m 1;");
        x.undo();
        x.redo();
        x.undo();
        for (int what = -1; what < 15; what++) {
            x.about(what);
            x.without(0, what);
            x.storm(3, 50, what);
            x.clear(2, what);
        }
        x.quiet();
        x.nearest();
        x.room(2);
        x.law();
        due("no act", x.about(10), 0);
        due("redo is there", x.redo() ? 1 : 0, 1);
        due("as it was", x.about(13), 2);
        due("online", x.about(3), 3);
        due("no ticks", x.about(6), 0);
    }
}
