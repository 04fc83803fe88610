import com.sun.management.ThreadMXBean;
import java.lang.management.ManagementFactory;

/** How much room the calls take: all calls of a run live in one room, from which nothing goes away. */
public final class RoomTest {
    private static final Check CHECK = new Check();
    private static final ThreadMXBean MEMORY = (ThreadMXBean) ManagementFactory.getThreadMXBean();

    public static void main(String[] args) {
        // the first measures load classes, which takes room too
        madeAndUsed(100);
        long made = madeAndUsed(0);
        long used = madeAndUsed(512);
        System.out.println("a new object takes " + made + " bytes, 512 calls on it " + (used - made) + " more");
        CHECK.holds("a new object takes little room", made < 6000);
        CHECK.holds("512 calls take little room", used - made < 16000);
        CHECK.end();
    }

    private static long madeAndUsed(int calls) {
        long before = MEMORY.getCurrentThreadAllocatedBytes();
        EscapeLights x = new EscapeLights();
        for (int call = 0; call < calls; call++) {
            use(x, call);
        }
        return MEMORY.getCurrentThreadAllocatedBytes() - before;
    }

    private static void use(EscapeLights x, int call) {
        if (call < 10) {
            x.add(10 + call, call % 4, call % 4, call % 3);
            return;
        }
        if (call < 16) {
            x.route(10, 10 + call % 10);
            return;
        }
        switch (call % 16) {
            case 0: x.pass(100); break;
            case 1: x.test(1023, true); break;
            case 2: x.bestSwap(call % 3); break;
            case 3: x.digest(); break;
            case 4: x.undo(); break;
            case 5: x.carryOut(); break;
            case 6: x.ifLamp(3, 2); break;
            case 7: x.swapAll(9000); break;
            case 8: x.maintain(2, true); break;
            case 9: x.drop(call % 10); break;
            case 10: x.add(12, 1, 2, 0); break;
            case 11: x.setStock(1, 50); break;
            case 12: x.type('p'); break;
            case 13: x.load(); break;
            case 14: x.dropRoute(0); break;
            default: x.route(11, 13); break;
        }
    }
}
