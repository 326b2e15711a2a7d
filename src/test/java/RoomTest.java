import com.sun.management.ThreadMXBean;
import java.lang.management.ManagementFactory;

/** The room that objects take: rows are made by the constructor, and by no later call. */
public final class RoomTest {
    private static final int BYTES_OF_AN_OBJECT = 20_000;
    private static final Due DUE = new Due();
    private static final ThreadMXBean BEAN = (ThreadMXBean) ManagementFactory.getThreadMXBean();

    public static void main(String[] args) {
        useFully(Nets.parity(false));
        long before = BEAN.getCurrentThreadAllocatedBytes();
        ClocklessGates small = new ClocklessGates();
        long made = BEAN.getCurrentThreadAllocatedBytes() - before;
        DUE.that("a new object takes " + made + " bytes", made < BYTES_OF_AN_OBJECT);
        DUE.answer("and is empty", 0, small::analyse);
        ClocklessGates x = Nets.parity(false);
        before = BEAN.getCurrentThreadAllocatedBytes();
        for (int i = 0; i < 50; i++) {
            useFully(x);
        }
        long used = BEAN.getCurrentThreadAllocatedBytes() - before;
        DUE.that("its calls take " + used + " bytes", used < BYTES_OF_AN_OBJECT);
        DUE.end();
    }

    private static void useFully(ClocklessGates x) {
        x.analyse();
        x.synthesise();
        x.check();
        x.strip(4);
        x.append(4, 100);
        x.value(4, 31);
        x.check();
    }
}
