import java.lang.management.ManagementFactory;
import java.lang.reflect.Array;
import java.lang.reflect.Field;
import java.lang.reflect.Modifier;
import java.util.ArrayDeque;
import java.util.IdentityHashMap;
import java.util.Map;

/** A run lives in one room: an object is small when it is made, and its calls make nothing more. */
public final class RoomTest {
    private static final int MOST_OBJECTS = 300;
    private static final int MOST_ELEMENTS = 7000;

    public static void main(String[] args) throws IllegalAccessException {
        Check check = new Check();
        WornSkin x = Check.withLibrary("skin a lines 6 thick 30;skin b lines 6 thick 30;text p charter gall lines 2;"
            + "text q psalm soot lines 1;damp 3 4 9;shows deep*2<wet+bite;");
        int[] room = roomOf(x);
        System.out.println(room[0] + " objects and arrays, " + room[1] + " fields and elements");
        check.due("objects " + room[0], true, room[0] <= MOST_OBJECTS);
        check.due("fields and elements " + room[1], true, room[1] <= MOST_ELEMENTS);
        com.sun.management.ThreadMXBean threads =
            (com.sun.management.ThreadMXBean) ManagementFactory.getThreadMXBean();
        long me = Thread.currentThread().getId();
        everyCall(x);
        long least = Long.MAX_VALUE;
        for (int i = 0; i < 50; i++) {
            long ahead = threads.getThreadAllocatedBytes(me);
            everyCall(x);
            least = Math.min(least, threads.getThreadAllocatedBytes(me) - ahead);
        }
        check.due("bytes that a round of all calls makes: " + least, true, least < 200);
        check.end("RoomTest");
    }

    private static void everyCall(WornSkin x) throws IllegalAccessException {
        x.mark(0, false);
        x.write(0, 0, 0);
        x.scrape(0);
        x.write(1, 0, 3);
        x.third(0);
        x.week();
        x.undo();
        x.see(0, 1, 1, true);
        for (int i = -1; i < 12; i++) {
            x.skin(0, i);
            x.text(0, i);
            x.count(i);
            x.lay(i);
            x.judged(i);
            x.years(7, 30, i);
        }
        x.layers(0, 0);
        x.layer(0, 0, 0);
        x.read(0, 0);
        x.later(0, 0, 7);
        x.when(0);
        x.need(0);
        x.lost();
        x.place(0, 0);
        x.cost(0, 0);
        x.bears(0, 0);
        x.over(0);
        x.deepest(0);
        x.bare(0);
        x.same();
        x.giveup();
        x.psalter(0);
        x.who();
        x.ask(0);
        x.chance(0, 3, 3);
        x.rests(1, 1, 1, -1);
        x.feed(0x7765656b3b000000L, 0, 0);
        x.year();
        x.mark(0, true);
    }

    private static int[] roomOf(Object root) throws IllegalAccessException {
        int objects = 0;
        int elements = 0;
        Map<Object, Boolean> met = new IdentityHashMap<>();
        ArrayDeque<Object> open = new ArrayDeque<>();
        open.add(root);
        met.put(root, true);
        while (!open.isEmpty()) {
            Object one = open.remove();
            objects++;
            if (one.getClass().isArray()) {
                elements += Array.getLength(one);
                for (int i = 0; i < Array.getLength(one) && !one.getClass().getComponentType().isPrimitive(); i++) {
                    meet(Array.get(one, i), met, open);
                }
                continue;
            }
            for (Field field : one.getClass().getDeclaredFields()) {
                if (!Modifier.isStatic(field.getModifiers())) {
                    elements++;
                    field.setAccessible(true);
                    if (!field.getType().isPrimitive()) {
                        meet(field.get(one), met, open);
                    }
                }
            }
        }
        return new int[] {objects, elements};
    }

    private static void meet(Object one, Map<Object, Boolean> met, ArrayDeque<Object> open) {
        if (one != null && met.put(one, true) == null) {
            open.add(one);
        }
    }
}
