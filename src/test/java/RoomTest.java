import com.sun.management.ThreadMXBean;
import java.lang.management.ManagementFactory;

/** Calls make no objects and arrays: all rows are made with the object and used again. */
public final class RoomTest {
    private static final long SLACK = 200_000;

    private RoomTest() {
    }

    public static void main(String[] args) {
        ThreadMXBean bean = (ThreadMXBean) ManagementFactory.getThreadMXBean();
        HedgehogBorder x = Check.with("..l.w;.#l..;l..#.;.w.l.", "025;103;187;121;394");
        long sum = use(x);
        long before = bean.getCurrentThreadAllocatedBytes();
        for (int i = 0; i < 500; i++) {
            sum += use(x);
        }
        long made = bean.getCurrentThreadAllocatedBytes() - before;
        System.out.println("RoomTest: " + made + " bytes made by 500 rounds (" + sum + ")");
        if (made > SLACK) {
            System.exit(1);
        }
    }

    private static long use(HedgehogBorder x) {
        long sum = x.wipe(0) + x.type(0, '.') + x.type(0, '.') + x.type(0, ';') + x.type(0, '.') + x.type(0, 'l');
        sum += x.sheet(0, 2, 60) + x.lay(0, 2, 3, 4) + x.read(0) + x.bowl(3, 2) + x.dog(0, 2) + x.write(3, 0);
        sum += x.copy(0, 0, 0, 3, 20) + x.seen(0, 0, 0) + x.cat(3, 9, 0, 1, 0) + x.layOut(9, 0, 1, 0) + x.digest();
        return sum + x.lose(0) + x.forget() + x.back(0) + x.back(1);
    }
}
