import java.lang.reflect.Field;

/** Promise 32 from its other side: a state that is broken from outside is told, so that 0 means something. */
public final class LawTest {
    private static final Check CHECK = new Check("LawTest");

    public static void main(String[] args) throws Exception {
        CHECK.due("law of what is whole", started().law(), 0);
        VectorDeal x = started();
        ((int[]) of(state(x), "heldAt"))[0] = 5;
        CHECK.due("a LINE whose VECTOR does not say so, and a VECTOR whose LINE does not", x.law(), 2);
        x = started();
        ((int[]) of(state(x), "oldAt"))[0] = 5;
        CHECK.due("an OLD one that is none", x.law(), 1);
        x = started();
        ((int[]) of(of(state(x), "rows"), "owner"))[0] = 8;
        CHECK.due("a VECTOR of another", x.law(), 2);
        x = started();
        ((int[][]) of(of(state(x), "rows"), "row"))[0][0] |= 1;
        CHECK.due("two things at one VECTOR", x.law(), 1);
        x = started();
        ((int[]) of(of(state(x), "rows"), "pending"))[0] |= 1 << 7;
        CHECK.due("a message at a FREE one", x.law(), 1);
        x = started();
        Field started = state(x).getClass().getDeclaredField("started");
        started.setAccessible(true);
        started.setInt(state(x), 0);
        CHECK.due("VECTORS of what is not STARTED", x.law(), 3);
        x = Check.made("cpus 2;device a single;device b single;device c managed 1 on 1;device d single;", "start d;start c;");
        ((int[]) of(state(x), "heldAt"))[3 * 8] = 5;
        CHECK.due("a LINE of a later DEVICE", x.law(), 2);
        x = Check.made("cpus 2;device m managed 2;", "start m;");
        ((int[][]) of(of(state(x), "rows"), "row"))[0][0] &= ~2;
        ((int[][]) of(of(state(x), "rows"), "row"))[4][0] |= 2;
        ((int[]) of(of(state(x), "rows"), "owner"))[1] = 1;
        CHECK.due("a VECTOR RESERVED for a QUEUE that is not on that CPU", x.law(), 1);
        x = started();
        ((int[]) of(of(state(x), "rows"), "pending"))[0] |= 2;
        CHECK.due("a message at what is RESERVED", x.law(), 1);
        CHECK.finish();
    }

    /** One at VECTOR 0 of CPU 0; a QUEUE that is HELD on CPU 1, and RESERVED on CPU 0. */
    private static VectorDeal started() {
        return Check.made("cpus 2;vectors 8;device a single;device m managed 1;", "start a;start m;");
    }

    private static Object state(VectorDeal x) throws Exception {
        return of(of(x, "history"), "now");
    }

    private static Object of(Object object, String field) throws Exception {
        Field f = object.getClass().getDeclaredField(field);
        f.setAccessible(true);
        return f.get(object);
    }
}
