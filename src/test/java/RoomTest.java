import com.sun.management.ThreadMXBean;
import java.lang.management.ManagementFactory;

/** All calls of a run live in one room: an object makes little, and its dearest calls make nothing anew. */
public final class RoomTest {
    private static final long MOST_BYTES_OF_OBJECT = 16000;
    private static final long MOST_BYTES_OF_PULLS = 500000;

    public static void main(String[] args) {
        ThreadMXBean bean = (ThreadMXBean) ManagementFactory.getThreadMXBean();
        if (!bean.isThreadAllocatedMemorySupported()) {
            System.out.println("this machine does not count what is made");
            return;
        }
        long id = Thread.currentThread().getId();
        dearest(made());
        bean.getThreadAllocatedBytes(id);
        long start = bean.getThreadAllocatedBytes(id);
        StoneThatShakes stone = new StoneThatShakes();
        long object = bean.getThreadAllocatedBytes(id) - start;
        tellAll(stone);
        start = bean.getThreadAllocatedBytes(id);
        dearest(stone);
        long first = bean.getThreadAllocatedBytes(id) - start;
        start = bean.getThreadAllocatedBytes(id);
        for (int i = 0; i < 10; i++) {
            dearest(stone);
        }
        long later = bean.getThreadAllocatedBytes(id) - start;
        System.out.println("an object " + object + " bytes, first calls " + first + ", later ones " + later);
        if (object > MOST_BYTES_OF_OBJECT || first > MOST_BYTES_OF_PULLS || later > 1000) {
            System.out.println("too much");
            System.exit(1);
        }
    }

    private static StoneThatShakes made() {
        StoneThatShakes stone = new StoneThatShakes();
        tellAll(stone);
        return stone;
    }

    private static void tellAll(StoneThatShakes stone) {
        for (int i = 0; i < 16; i++) {
            tell(stone, "h" + i % 2 + "," + (i * 37 % 199 - 99) + "," + (i * 53 % 199 - 99) + ",9");
        }
        for (int i = 0; i < 6; i++) {
            tell(stone, "s" + (i + 1) + "," + i);
        }
        for (int i = 0; i < 8; i++) {
            tell(stone, "c" + 11 * i);
        }
        stone.think(0, 300, -200);
    }

    private static void tell(StoneThatShakes stone, String text) {
        for (int i = 0; i < text.length(); i += 4) {
            int v = 0;
            for (int j = i; j < i + 4; j++) {
                v = v << 8 | (j < text.length() ? text.charAt(j) : 0);
            }
            stone.sign(v);
        }
        stone.end(text.length());
        stone.mill();
    }

    private static long dearest(StoneThatShakes s) {
        long sum = s.which() + s.ends() + s.bars() + s.next(1, 4) + s.enough(1, 2, 3) + s.best(0, 3) + s.off(0, 3);
        sum += s.instead(0, 2) + s.fewest(0, 0) + s.all(0, 3) + s.ounce(0, 0) + s.settle(1) + s.two(2) + s.worst();
        sum += s.both(0, 1, 2, 3, 4) + s.part(1) + s.buckets(0, 5) + s.cogs() + s.order() + s.round() + s.feel(0, 1);
        sum += s.whole(0, 1, 2, 999) + s.judge(0, 0) + s.drop() + s.tells(0, 1) + s.men(0, 1, 2, 3) + s.hums(0, 0);
        sum += (s.keep(0) ? 1 : 0) + (s.again(0) ? 1 : 0) + s.sheet(2, 16, 1, 1) + s.sheet(3, 0, 0, 0);
        return sum + s.sign(0x63353B00) + s.mill();
    }
}
