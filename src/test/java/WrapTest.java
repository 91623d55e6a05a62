import java.lang.reflect.Constructor;
import java.lang.reflect.Field;
import java.lang.reflect.Method;

/**
 * "KNOWN is what it tells, if that, less KNOWN, modulo 64, is below 32; else nothing" and LEARNS "or further (by less
 * than 32, modulo 64)": as no more than a POOL of 30 is ever OUT, and what is on a HOP keeps its order, no run of calls
 * gets further than 30 on or behind at all. So these two are tried inside the class, for all counters there are.
 */
public final class WrapTest extends Due {
    private static final int COUNTERS = 64;
    private static final int HALF = 32;

    private static void updatesHeard() throws Exception {
        about("KNOWN is what it tells, if that, less KNOWN, modulo 64, is below 32; else nothing");
        Class<?> type = Class.forName("HopCredits$Lane");
        Constructor<?> maker = type.getDeclaredConstructor();
        Field known = type.getDeclaredField("known");
        Method hear = type.getDeclaredMethod("hear", int.class);
        maker.setAccessible(true);
        known.setAccessible(true);
        hear.setAccessible(true);
        Object lane = maker.newInstance();
        for (int was = 0; was < COUNTERS; was++) {
            for (int further = 0; further < COUNTERS; further++) {
                int told = (was + further) % COUNTERS;
                known.setInt(lane, was);
                hear.invoke(lane, told);
                due("KNOWN " + was + " that is told " + told, known.getInt(lane), further < HALF ? told : was);
            }
        }
    }

    private static void learned() throws Exception {
        about("LEARNS: KNOWN is what GONE is now, or further (by less than 32, modulo 64)");
        Method reaches = HopCredits.class.getDeclaredMethod("reaches", int.class, int.class);
        reaches.setAccessible(true);
        for (int gone = 0; gone < COUNTERS; gone++) {
            for (int further = 0; further < COUNTERS; further++) {
                int known = (gone + further) % COUNTERS;
                boolean learns = (Boolean) reaches.invoke(null, known, gone);
                due("KNOWN " + known + " of GONE " + gone, learns, further < HALF);
            }
        }
    }

    public static void main(String[] args) throws Exception {
        updatesHeard();
        learned();
        finish("the counters wrap as written");
    }
}
