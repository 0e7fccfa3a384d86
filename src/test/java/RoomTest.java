import java.lang.management.ManagementFactory;
import java.lang.reflect.Array;
import java.lang.reflect.Field;
import java.lang.reflect.Modifier;
import java.util.ArrayList;
import java.util.Collections;
import java.util.IdentityHashMap;
import java.util.List;
import java.util.Random;
import java.util.Set;

/** Wild arguments in full states: nothing is thrown that the document doesn't name, and nothing is made. */
public final class RoomTest {
    private static final int[] EDGES = {Integer.MIN_VALUE, Integer.MIN_VALUE + 1, -33, -32, -31, -3, -2, -1, 0, 1, 2, 3, 4,
        5, 6, 7, 8, 9, 10, 11, 12, 13, 15, 16, 23, 24, 25, 31, 32, 33, 40, 41, 63, 64, 800, 801, 999, 1000,
        Integer.MAX_VALUE - 1, Integer.MAX_VALUE};
    private static final String FULL = "tavern a 1 5;tavern b 2 6;tavern c 3 7;voice a 1 20 boy pawn a 3;voice b 5 30 pawn b 4;"
            + "voice c 9 40 boy;voice d 1 40 pawn c 5;voice e 2 9 boy pawn c 1;voice f 20 40;"
            + "verse a part 1 2 0 4 5 6 7 8 part 9 0 part 30 31;verse b part 1 0 3 0 5 0 7 0 part 20 21 part 5;"
            + "verse c part 5 6 part 7 part 8 0;verse d part 40 part 1 part 20;"
            + "baker a 99 notes*3/week;baker b 80 high;baker c 70 rests+9;purse 500;seed 11;law due debt*notes;law crack week*9;";

    /** So many new objects must have room beside one another: 600,000 objects, 7.3 million fields and elements. */
    private static final int OBJECTS_OF_A_RUN = 2000;

    public static void main(String[] args) throws IllegalAccessException {
        checkRoomOf(new RansomHymn());
        com.sun.management.ThreadMXBean meter = (com.sun.management.ThreadMXBean) ManagementFactory.getThreadMXBean();
        Random random = new Random(1);
        RansomHymn[] objects = new RansomHymn[60];
        int[] five = new int[5];
        for (int i = 0; i < objects.length; i++) {
            objects[i] = new RansomHymn();
            if (i % 6 != 0) {
                Check.same("lines of the full text", Check.tell(objects[i], FULL), 20);
            }
        }
        wild(objects[0], random, five, 100);
        long thread = Thread.currentThread().getId();
        long before = meter.getThreadAllocatedBytes(thread);
        for (RansomHymn x : objects) {
            wild(x, random, five, 450);
        }
        long made = meter.getThreadAllocatedBytes(thread) - before;
        Check.isTrue("bytes that 27000 calls made: " + made, made < 100000);
        Check.end("RoomTest");
    }

    private static void checkRoomOf(RansomHymn x) throws IllegalAccessException {
        Set<Object> seen = Collections.newSetFromMap(new IdentityHashMap<>());
        List<Object> open = new ArrayList<>();
        open.add(x);
        int cells = 0;
        while (!open.isEmpty()) {
            Object one = open.remove(open.size() - 1);
            if (one != null && seen.add(one)) {
                cells += one.getClass().isArray() ? openArray(one, open) : openFields(one, open);
            }
        }
        Check.isTrue("objects of a new one: " + seen.size(), seen.size() <= 600000 / OBJECTS_OF_A_RUN);
        Check.isTrue("fields and elements of a new one: " + cells, cells <= 7300000 / OBJECTS_OF_A_RUN);
    }

    private static int openArray(Object row, List<Object> open) {
        int length = Array.getLength(row);
        for (int i = 0; i < length && !row.getClass().getComponentType().isPrimitive(); i++) {
            open.add(Array.get(row, i));
        }
        return length;
    }

    private static int openFields(Object one, List<Object> open) throws IllegalAccessException {
        int fields = 0;
        for (Field field : one.getClass().getDeclaredFields()) {
            if (!Modifier.isStatic(field.getModifiers())) {
                fields++;
                field.setAccessible(true);
                if (!field.getType().isPrimitive()) {
                    open.add(field.get(one));
                }
            }
        }
        return fields;
    }

    private static void wild(RansomHymn x, Random random, int[] five, int calls) {
        for (int i = 0; i < calls; i++) {
            for (int k = 0; k < 5; k++) {
                five[k] = random.nextInt(3) != 0 ? random.nextInt(4) : EDGES[random.nextInt(EDGES.length)];
            }
            call(x, random.nextInt(35), five[0], five[1], five[2], five[3], five[4]);
        }
    }

    private static void call(RansomHymn x, int which, int a, int b, int c, int d, int e) {
        switch (which) {
            case 0 -> x.feed(a, b, c, d, e);
            case 1 -> x.text(a < 0 ? a : a + 5);
            case 2 -> x.fault(a);
            case 3 -> x.named(a, b);
            case 4 -> {
                // A throw makes an exception: ModelTest asks for those.
                if (a >= 0 && a < x.count(1)) {
                    x.look(a, b & 3);
                }
            }
            case 5 -> x.tavern(a, b);
            case 6 -> x.verse(a, b);
            case 7 -> x.pitch(a, b, c);
            case 8 -> x.due(a, b, c);
            case 9 -> x.sounds(a, b, c);
            case 10 -> x.bids(a, b);
            case 11 -> x.cracks(a);
            case 12 -> x.redeem(a, b, c);
            case 13 -> x.undo();
            case 14 -> x.sings(a, b);
            case 15 -> x.bar(a, b);
            case 16 -> x.sunday();
            case 17 -> x.best(a, b);
            case 18 -> x.chosen(a, b, c);
            case 19 -> x.sold(a, b, c);
            case 20 -> x.easter(a);
            case 21 -> x.hum(a);
            case 22 -> x.strike(a);
            case 23 -> x.known(a);
            case 24 -> x.thieves();
            case 25 -> x.odds(a, b);
            case 26 -> x.gang();
            case 27 -> x.round(a, b, c, d);
            case 28 -> x.entry(a, b, c, d, e);
            case 29 -> x.run(a, b);
            case 30 -> x.pay(a);
            case 31 -> x.whole(a, b, c);
            case 32 -> x.keep();
            case 33 -> x.back();
            default -> x.count(a);
        }
    }
}
