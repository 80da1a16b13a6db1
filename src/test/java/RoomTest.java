import com.sun.management.ThreadMXBean;
import java.lang.management.ManagementFactory;

/**
 * All calls of a run live in one room, and what a call makes is never given back: so the calls
 * make nothing, but the exceptions that they throw, and the constructor makes little.
 */
public final class RoomTest {
    private static final int CALLS = 512;
    private static final long BYTES_OF_A_BANK = 20_000L;
    /** The machine's own doings may be counted in; an array a call would be far more. */
    private static final long BYTES_OF_THE_CALLS = 40_000L;

    private static final Checks checks = new Checks();
    private static final ThreadMXBean machine = (ThreadMXBean) ManagementFactory.getThreadMXBean();

    private static long made() {
        return machine.getThreadAllocatedBytes(Thread.currentThread().getId());
    }

    /** As full as a bank can be. */
    private static SnippetBank full() {
        SnippetBank bank = new SnippetBank();
        for (int piece = 0; piece < 16; piece++) {
            bank.cut(12);
            for (int k = 0; k < 12; k++) {
                bank.token((piece / 2 + k) % 20 + 10);
            }
            bank.keep();
        }
        for (int licence = 0; licence < 6; licence++) {
            bank.licence(1 << licence % 5, 1 << (licence + 1) % 5, licence % 2 == 0, 5);
        }
        for (int project = 0; project < 5; project++) {
            bank.project();
            bank.replace(project, 0, project);
            for (int node = 1; node < 10; node++) {
                bank.node(project, node / 2, node);
            }
        }
        return bank;
    }

    private static long dearest(SnippetBank bank, int call) {
        int k = call % 5;
        bank.tell(call % 16, call % 6);
        bank.nearness(call % 100 + 1);
        bank.copy(call % 16, call % 10);
        bank.notice(k, k, call % 2 == 0);
        bank.replace(k, call % 10, call % 16);
        return bank.digest() + bank.remedy(k) + bank.substitute(k, 0) + bank.recalledBy(call % 16, call % 6)
                + bank.clashesWith(k, 0, call % 16) + (long) bank.meanShare();
    }

    public static void main(String[] args) {
        if (!machine.isThreadAllocatedMemorySupported()) {
            System.out.println("this machine does not tell what is made");
            return;
        }
        long sum = dearest(full(), 0);
        long before = made();
        SnippetBank bank = new SnippetBank();
        checks.due("a new bank is small", made() - before < BYTES_OF_A_BANK, true);
        sum += bank.many(10);
        bank = full();
        before = made();
        for (int call = 0; call < CALLS; call++) {
            sum += dearest(bank, call);
        }
        long bytes = made() - before;
        checks.due("calls make nothing (" + bytes + " bytes)", bytes < BYTES_OF_THE_CALLS, true);
        System.out.println("digests sum up to " + sum);
        checks.end();
    }
}
