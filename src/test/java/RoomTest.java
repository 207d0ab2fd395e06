import java.lang.reflect.Array;
import java.lang.reflect.Field;
import java.lang.reflect.Modifier;
import java.util.ArrayDeque;
import java.util.Collections;
import java.util.Deque;
import java.util.IdentityHashMap;
import java.util.Set;

/** The room that one object takes: it must not grow with the calls, and stay far below the limit of a run. */
public final class RoomTest {
    private static final int MOST_OBJECTS = 1200;
    private static final int MOST_ELEMENTS = 12000;

    private final Set<Object> seen = Collections.newSetFromMap(new IdentityHashMap<>());
    private final Deque<Object> open = new ArrayDeque<>();
    private int elements = 0;

    public static void main(String[] args) throws IllegalAccessException {
        CardLine line = new CardLine();
        use(line);
        RoomTest first = new RoomTest();
        first.measure(line);
        for (int time = 0; time < 5; time++) {
            use(line);
        }
        RoomTest later = new RoomTest();
        later.measure(line);
        System.out.println("A used object: " + later.seen.size() + " objects, " + later.elements + " fields and elements.");
        Check.due("objects do not grow", later.seen.size(), first.seen.size());
        Check.due("elements do not grow", later.elements, first.elements);
        Check.due("few objects", later.seen.size() <= MOST_OBJECTS ? 1 : 0, 1);
        Check.due("few elements", later.elements <= MOST_ELEMENTS ? 1 : 0, 1);
        Check.end("RoomTest");
    }

    private static void use(CardLine line) {
        StringBuilder text = new StringBuilder("line 9 99 1 5");
        for (int station = 0; station < 6; station++) {
            text.append(";wheel 1 000000000001;rest ").append(station).append(" 1 1;lot 5");
        }
        for (int card = 0; card < 30; card++) {
            text.append(";card5zn");
        }
        Check.load(line, text.toString());
        for (int action = 0; action < 20; action++) {
            line.run(9);
        }
        line.saveSnapshot(0);
        line.saveSnapshot(1);
        line.bestTray();
        line.bestRank(5);
        line.lotBy(2);
        line.writeCard(0);
    }

    private void add(Object object) {
        if (object != null && seen.add(object)) {
            open.add(object);
        }
    }

    private void measure(Object root) throws IllegalAccessException {
        add(root);
        while (!open.isEmpty()) {
            Object object = open.remove();
            if (object.getClass().isArray()) {
                elements += Array.getLength(object);
                for (int index = 0; index < Array.getLength(object); index++) {
                    if (!object.getClass().getComponentType().isPrimitive()) {
                        add(Array.get(object, index));
                    }
                }
                continue;
            }
            for (Field field : object.getClass().getDeclaredFields()) {
                if (!Modifier.isStatic(field.getModifiers())) {
                    elements++;
                    field.setAccessible(true);
                    if (!field.getType().isPrimitive()) {
                        add(field.get(object));
                    }
                }
            }
        }
    }
}
