import java.lang.reflect.Array;
import java.lang.reflect.Field;
import java.lang.reflect.Modifier;
import java.util.ArrayDeque;
import java.util.Collections;
import java.util.Deque;
import java.util.IdentityHashMap;
import java.util.Set;

/** The room of a run: some 600,000 objects and arrays, 7.3 million fields and elements, for all of its 512 calls. */
public final class RoomTest {
    private static final Check CHECK = new Check("RoomTest");
    private static final int CALLS = 512;
    private static final long MOST_OBJECTS = 600_000;
    private static final long MOST_CELLS = 7_300_000;

    private final Set<Object> met = Collections.newSetFromMap(new IdentityHashMap<>());
    private final Deque<Object> ahead = new ArrayDeque<>();
    private long cells;

    public static void main(String[] args) throws IllegalAccessException {
        TwoRopes x = new TwoRopes();
        RoomTest fresh = new RoomTest();
        fresh.count(x);
        // as if each of the calls made an object anew
        CHECK.due("objects of one: " + fresh.met.size(), fresh.met.size() * CALLS <= MOST_OBJECTS, true);
        CHECK.due("fields and elements of one: " + fresh.cells, fresh.cells * CALLS <= MOST_CELLS, true);
        use(x);
        RoomTest used = new RoomTest();
        used.count(x);
        CHECK.due("objects kept by calls", used.met.size() <= fresh.met.size(), true);
        CHECK.due("fields and elements kept by calls", used.cells <= fresh.cells, true);
        CHECK.finish();
    }

    private static void use(TwoRopes x) {
        Check.book(x, "trick run worth 5:feet\"-l-r\";trick spin worth 9:feet\"-l-r-l-r\"turn 1;");
        Check.book(x, "trick run worth 5:feet\"-l-r\";trick spin worth 9:feet\"-l-r-l-r\"turn 1;!");
        Check.routine(x, "beats 200;at 0 2 in left;at 1 2 does spin;at 4 2 does run mirrored;at 9 2 takes left;");
        Check.routine(x, "beats 200;at 0 2 in left;at 1 2 does spin;at 4 2 does run mirrored;at 9 2 takes left;!");
        x.run();
        x.best(200, 0, 0);
        x.joined(200, 0, 0, 1, 0);
        Check.rhyme(x, "eeny meeny miny moe");
        x.stays(100);
        for (int i = 0; i < 30; i++) {
            Check.tape(x, "-lrb?", i % 3, i % 6, i);
        }
        x.steps(2, 1, 0, 799, true, 0);
        x.told(2, 0, 1, true, 0);
        x.slip(2, true, 0);
    }

    private void count(Object root) throws IllegalAccessException {
        meet(root);
        while (!ahead.isEmpty()) {
            Object one = ahead.poll();
            if (one.getClass().isArray()) {
                countArray(one);
            } else {
                countFields(one);
            }
        }
    }

    private void meet(Object one) {
        if (one != null && met.add(one)) {
            ahead.add(one);
        }
    }

    private void countArray(Object array) {
        int length = Array.getLength(array);
        cells += length;
        for (int i = 0; i < length && !array.getClass().getComponentType().isPrimitive(); i++) {
            meet(Array.get(array, i));
        }
    }

    private void countFields(Object one) throws IllegalAccessException {
        for (Field field : one.getClass().getDeclaredFields()) {
            if (Modifier.isStatic(field.getModifiers())) {
                continue;
            }
            cells++;
            if (!field.getType().isPrimitive()) {
                field.setAccessible(true);
                meet(field.get(one));
            }
        }
    }
}
