import com.sun.management.ThreadMXBean;
import java.lang.management.ManagementFactory;

/** All calls of a run live in one room: what they make is counted here, in bytes of this machine. */
public final class RoomTest {
    private static final ThreadMXBean COUNTER = (ThreadMXBean) ManagementFactory.getThreadMXBean();
    /** 7.3 million fields and elements are some 30 million bytes; a run should need a small part of them. */
    private static final long A_RUN = 2_000_000, A_NEW_OBJECT = 60_000, CALLS_WITHOUT_HABITS = 2_000;

    public static void main(String[] args) {
        dearCalls(new KnotRing(), 1);
        long before = made();
        KnotRing x = new KnotRing();
        small("a new object", made() - before, A_NEW_OBJECT);
        before = made();
        dearCalls(x, 30);
        small("calls that make no habit", made() - before, CALLS_WITHOUT_HABITS);
        before = made();
        habits(new KnotRing());
        small("a run of habits", made() - before, A_RUN);
        Due.end();
    }

    /** The count is taken ahead of any text: texts take room too. */
    private static void small(String what, long bytes, long most) {
        Due.holds(what + " takes " + bytes + " bytes, at most " + most, bytes <= most);
    }

    private static long made() {
        return COUNTER.getThreadAllocatedBytes(Thread.currentThread().getId());
    }

    private static void dearCalls(KnotRing x, int times) {
        x.type(Due.packed("g<2:=0;*"), 8);
        x.type(Due.packed(":+1c"), 4);
        x.habit(0);
        x.evenly(8, 2);
        for (int k = 0; k < times; k++) {
            x.calmed(0, 100);
            x.cost(0, 200, -1);
            x.after(0, 200);
            x.round(500);
            x.evens(500);
            x.ticks(200);
            x.image(k % 2);
            x.restore(k % 2);
            x.sheet(k % 4, k % 3, 36);
            x.copy(k % 4, 0, k % 4, 1, 35);
            x.paces(k % 4, 1 + k % 2, 0);
            x.taps(k % 4, 0);
            x.knot(0, 0);
            x.count(7);
        }
    }

    /** 512 calls that give as many and as long habits as can be. */
    private static void habits(KnotRing x) {
        for (int k = 0; k < 36; k++) {
            for (int piece = 0; piece < 12; piece++) {
                x.type(Due.packed("*&*|*&*&"), 8);
            }
            x.type(Due.packed("*:=1"), 4);
            Due.is("habit", x.habit(k % 3), 1);
        }
        for (int k = 0; k < 22; k++) {
            x.type(Due.packed("*:=1"), 4);
            x.habit(0);
        }
    }
}
