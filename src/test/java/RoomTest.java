import com.sun.management.ThreadMXBean;
import java.lang.management.ManagementFactory;
import java.lang.reflect.Array;
import java.lang.reflect.Field;
import java.lang.reflect.Modifier;

/** What one object takes of the room that all calls of a run share, and that its calls take none. */
public final class RoomTest {
    private static final ThreadMXBean THREADS = (ThreadMXBean) ManagementFactory.getThreadMXBean();

    private int objects = 0;
    private int elements = 0;

    private RoomTest() {
    }

    public static void main(String[] args) throws IllegalAccessException {
        RoomTest room = new RoomTest();
        room.count(new TeleprinterTape());
        System.out.println("an object takes " + room.objects + " objects and " + room.elements + " fields and elements");
        Run.due("room", "at most 100 objects", room.objects <= 100 ? 1 : 0, 1);
        Run.due("room", "at most 4000 fields and elements", room.elements <= 4000 ? 1 : 0, 1);
        callsMakeNothing();
        Run.finish();
    }

    private void count(Object object) throws IllegalAccessException {
        objects++;
        if (object.getClass().isArray()) {
            elements += Array.getLength(object);
            if (object instanceof Object[] row) {
                for (Object element : row) {
                    count(element);
                }
            }
            return;
        }
        for (Field field : object.getClass().getDeclaredFields()) {
            if (!Modifier.isStatic(field.getModifiers())) {
                elements++;
                field.setAccessible(true);
                if (!field.getType().isPrimitive()) {
                    count(field.get(object));
                }
            }
        }
    }

    private static void callsMakeNothing() {
        TeleprinterTape object = new TeleprinterTape();
        int rounds = 2000;
        long sum = 0;
        long before = 0;
        for (int round = 0; round < 2 * rounds; round++) {
            if (round == rounds) {
                before = THREADS.getThreadAllocatedBytes(Thread.currentThread().getId());
            }
            sum += everyCall(object, round);
        }
        long taken = THREADS.getThreadAllocatedBytes(Thread.currentThread().getId()) - before;
        System.out.println(rounds + " rounds of every call took " + taken + " bytes (and summed up to " + sum + ")");
        Run.due("room", "less than a byte for a call", taken < rounds * 32L ? 1 : 0, 1);
    }

    private static int everyCall(TeleprinterTape object, int round) {
        int sum = object.clearMessage() + object.append('A') + object.append('1') + object.append(' ') + object.append('B');
        sum += object.errorPosition() + object.encodeMessage() + object.encodeWrapped() + object.repair() + object.punch(29);
        sum += object.length() + object.codeAt(1) + object.caseAt(1) + object.printedLength() + object.printedAt(1);
        sum += object.setStartCase(round & 1) + object.setUnshiftOnSpace(round >> 1 & 1) + object.setWidth(5 + round % 36);
        sum += object.cell(0, 0) + object.overstrikes() + object.damageIfLost(1) + object.damageIfFlipped(1, 1);
        sum += object.confidenceNumerator(5, 3) + object.confidenceDenominator(5, 3) + object.runScript(4, 101201301401L);
        sum += object.runScript(3, 502601732L) + object.observe(1, 49) + object.possibleSettings() + object.noise(round, 60);
        sum += object.save(round & 1) + object.editDistance(0) + object.flip(0, 0) + object.remove(0) + object.compact();
        sum += object.undo() + (round % 50 == 49 ? object.restore(0) : 0) + object.remove(0) + object.remove(0);
        return sum;
    }
}
