import java.lang.management.ManagementFactory;
import java.lang.reflect.Array;
import java.lang.reflect.Field;
import java.lang.reflect.Modifier;
import java.util.Collections;
import java.util.IdentityHashMap;
import java.util.Set;

/** The rules of LANGUAGE.md about sizes (11) and about what a run makes (12). */
public final class RoomTest {
    private static final int MOST_OBJECTS = 250, MOST_CELLS = 4000, MOST_FIELDS = 20;
    private static final String TEXT = "c5,3;o3,4,2;m7,4,1;v5,1,1;f0,9,9;l9,20,60;v0,20,3;m4,2,8;";

    private final Set<Object> seen = Collections.newSetFromMap(new IdentityHashMap<>());
    private int cells = 0;

    public static void main(String[] args) throws IllegalAccessException {
        fields();
        whatAnObjectHolds();
        whatCallsMake();
        Check.finish();
    }

    private static void fields() {
        fieldsOf(OathCoach.class);
        for (Class<?> inside : OathCoach.class.getDeclaredClasses()) {
            fieldsOf(inside);
        }
    }

    private static void fieldsOf(Class<?> type) {
        int fields = 0;
        for (Field f : type.getDeclaredFields()) {
            boolean constant = Modifier.isStatic(f.getModifiers());
            fields += constant ? 0 : 1;
            Check.same(f.getName() + " is final, if static", constant && !Modifier.isFinal(f.getModifiers()) ? 1 : 0, 0);
        }
        Check.same("twenty fields at most in " + type.getName(), fields <= MOST_FIELDS ? 1 : 0, 1);
    }

    private static void whatAnObjectHolds() throws IllegalAccessException {
        OathCoach x = Check.coachOf(TEXT);
        for (int i = 0; i < 7; i++) {
            useAll(x);
        }
        RoomTest room = new RoomTest();
        room.count(x);
        Check.same("objects held: " + room.seen.size(), room.seen.size() <= MOST_OBJECTS ? 1 : 0, 1);
        Check.same("fields and elements held: " + room.cells, room.cells <= MOST_CELLS ? 1 : 0, 1);
    }

    private void count(Object one) throws IllegalAccessException {
        if (one == null || !seen.add(one)) {
            return;
        }
        if (one.getClass().isArray()) {
            cells += Array.getLength(one);
            for (int i = 0; i < Array.getLength(one) && !one.getClass().getComponentType().isPrimitive(); i++) {
                count(Array.get(one, i));
            }
            return;
        }
        for (Field f : one.getClass().getDeclaredFields()) {
            if (!Modifier.isStatic(f.getModifiers())) {
                cells++;
                f.setAccessible(true);
                if (!f.getType().isPrimitive()) {
                    count(f.get(one));
                }
            }
        }
    }

    /** Once its images and its history are made, an object makes nothing more: all that is foretold uses them again. */
    private static void whatCallsMake() {
        if (!(ManagementFactory.getThreadMXBean() instanceof com.sun.management.ThreadMXBean made)
            || !made.isThreadAllocatedMemorySupported() || !made.isThreadAllocatedMemoryEnabled()) {
            System.out.println("this machine does not tell what is made");
            return;
        }
        OathCoach x = Check.coachOf(TEXT);
        useAll(x);
        long least = Long.MAX_VALUE;
        for (int i = 0; i < 6; i++) {
            long before = made.getCurrentThreadAllocatedBytes();
            useAll(x);
            least = Math.min(least, made.getCurrentThreadAllocatedBytes() - before);
        }
        Check.same("bytes made by 62 calls: " + least, least < 500 ? 1 : 0, 1);
    }

    /** 62 calls. */
    private static void useAll(OathCoach x) {
        x.hours(24);
        x.hours(2);
        x.undo();
        x.swear(0, 9, 20);
        x.buy(0);
        x.swear(1, 0, 3);
        x.snow(3, 1);
        x.snow(3, 0);
        for (int row = 0; row < 8; row++) {
            x.row(row, 0, 40);
            x.set(row, 3, 5);
        }
        x.copy(0, 0, 1, 1, 39);
        x.broke(0, 0, 12);
        x.sworn(1, 0, 0, 12);
        x.who(1, 0, 0, 12);
        x.drop(7);
        for (int k = 0; k < 2; k++) {
            x.image(k);
            x.restore(k);
        }
        for (int n = 1; n < 24; n += 11) {
            x.ahead(n);
            x.comesTo(1, n);
            x.kept(1);
            x.past(n % 10);
            x.visits(n);
            x.least(1, 4, n);
            x.buyOff(4, n, 1);
        }
        x.holds(60);
        x.rest();
        x.late(1);
        x.lies(4, 3, 1);
        x.order(40);
        x.drawn(60, 999999, 0);
        x.as(1, 4);
        x.ask(1, 0);
    }
}
