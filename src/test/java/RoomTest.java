import com.sun.management.ThreadMXBean;
import java.lang.management.ManagementFactory;
import java.lang.reflect.Array;
import java.lang.reflect.Modifier;
import java.util.ArrayDeque;
import java.util.Collections;
import java.util.Deque;
import java.util.IdentityHashMap;
import java.util.Set;

/** All calls of one run live in one room: an object makes all its rows when it is made, and no call makes more. */
public final class RoomTest {
    private static final Due due = new Due("RoomTest");

    private int objects = 0;
    private int parts = 0;

    public static void main(String[] args) throws IllegalAccessException {
        callsMakeNothing();
        objectIsSmall();
        due.close();
    }

    private static void callsMakeNothing() {
        ThreadMXBean threads = (ThreadMXBean) ManagementFactory.getThreadMXBean();
        if (!threads.isThreadAllocatedMemorySupported() || !threads.isThreadAllocatedMemoryEnabled()) {
            System.out.println("RoomTest: this machine does not count what is made");
            return;
        }
        // Once before, so that loading classes is not counted.
        everyCall(new EvenBreaks());
        threads.getCurrentThreadAllocatedBytes();
        EvenBreaks x = new EvenBreaks();
        long before = threads.getCurrentThreadAllocatedBytes();
        int calls = everyCall(x);
        long made = threads.getCurrentThreadAllocatedBytes() - before;
        due.is("bytes that " + calls + " calls made", made, 0);
        due.is("no more calls than are promised", calls <= 512 ? 1 : 0, 1);
    }

    /** Every call, those of many words too, in a new object; how many there were. */
    private static int everyCall(EvenBreaks x) {
        int calls = 0;
        for (int i = 0; i < 241; i++) {
            x.feed(i % 7 == 6 ? ' ' : 'a' + i % 26);
        }
        x.type();
        x.feed('?');
        x.insert(0);
        x.fault();
        calls += 245;
        for (int round = 0; round < 4; round++) {
            x.seed(round);
            x.drift(16);
            x.measure(50 * round + 1);
            x.rule(round + 1);
            x.fee(round);
            x.free(round % 2 == 0);
            x.feed('m');
            x.insert(round);
            x.feed('w');
            x.change(round);
            x.take(round);
            x.keep(round % 2);
            x.drift(1);
            x.undo(1);
            x.goBack(round % 2);
            x.see(round, true);
            x.write(round, round);
            calls += 17 + asked(x);
        }
        x.tear();
        return calls + 1;
    }

    private static int asked(EvenBreaks x) {
        for (int what = 0; what <= 19; what++) {
            x.told(what);
        }
        for (int what = 0; what <= 4; what++) {
            x.word(3, what);
            x.end(2, what);
            x.line(0, what);
        }
        x.cost(0, 9);
        x.first(0);
        x.first(1);
        x.known(20, 10);
        x.with(15);
        x.best(1, 200, 0);
        return 20 + 15 + 6;
    }

    /** 600,000 objects and 7.3 million parts are all that a run has: so some thousands of new objects are possible. */
    private static void objectIsSmall() throws IllegalAccessException {
        RoomTest room = new RoomTest();
        room.count(new EvenBreaks());
        due.is("no more than 100 objects, there are " + room.objects, room.objects <= 100 ? 1 : 0, 1);
        due.is("no more than 3000 fields and elements, there are " + room.parts, room.parts <= 3000 ? 1 : 0, 1);
    }

    private void count(Object first) throws IllegalAccessException {
        Set<Object> known = Collections.newSetFromMap(new IdentityHashMap<>());
        Deque<Object> left = new ArrayDeque<>();
        left.add(first);
        while (!left.isEmpty()) {
            Object one = left.remove();
            if (!known.add(one)) {
                continue;
            }
            objects++;
            if (one.getClass().isArray()) {
                countElements(one, left);
            } else {
                countFields(one, left);
            }
        }
    }

    private void countElements(Object row, Deque<Object> left) {
        parts += Array.getLength(row);
        for (int i = 0; !row.getClass().getComponentType().isPrimitive() && i < Array.getLength(row); i++) {
            left.add(Array.get(row, i));
        }
    }

    private void countFields(Object one, Deque<Object> left) throws IllegalAccessException {
        for (var field : one.getClass().getDeclaredFields()) {
            if (!Modifier.isStatic(field.getModifiers())) {
                parts++;
                field.setAccessible(true);
                if (!field.getType().isPrimitive()) {
                    left.add(field.get(one));
                }
            }
        }
    }
}
