import java.lang.reflect.Array;
import java.lang.reflect.Constructor;
import java.lang.reflect.Field;
import java.lang.reflect.Method;
import java.lang.reflect.Modifier;
import java.util.ArrayDeque;
import java.util.Arrays;
import java.util.Collections;
import java.util.Deque;
import java.util.IdentityHashMap;
import java.util.Set;
import java.util.TreeSet;

/** The public face is that of the document and no more, and what 512 calls can keep stays in the room. */
public final class FaceTest extends Checks {
    private static final String[] METHODS = {"stack 3", "lay 3", "turn 2", "doRow 2", "stackOf 2", "cakeAt 2",
        "gapsBehind 2", "fewest 2", "leastWork 1", "ways 2", "lookedAt 2", "simple 2", "bestTurn 1", "ranked 3",
        "ofDistance 2", "count 1", "undo 0", "type 1", "clearText 0", "fault 1", "play 0"};
    private static final int MOST_OBJECTS = 600000;
    private static final long MOST_ELEMENTS = 7300000;

    public static void main(String[] args) throws IllegalAccessException {
        constants();
        members();
        room();
        end();
    }

    private static void must(boolean holds, String what) {
        isTrue(what, holds);
    }

    private static void constants() throws IllegalAccessException {
        about("The public face, its constants");
        String[] names = {"INVALID_ARGUMENT", "NOT_POSSIBLE", "LIMIT_REACHED", "NOT_FOUND"};
        Set<String> found = new TreeSet<>();
        for (Field f : TurnTops.class.getDeclaredFields()) {
            if (!Modifier.isPrivate(f.getModifiers())) {
                found.add(f.getName());
                int number = Arrays.asList(names).indexOf(f.getName());
                must(f.getModifiers() == (Modifier.PUBLIC | Modifier.STATIC | Modifier.FINAL), f + " is a constant");
                must(f.getType() == int.class && f.getInt(null) == -1000001 - number, f + " has its value");
            }
        }
        must(found.equals(new TreeSet<>(Arrays.asList(names))), "the constants are those of the document: " + found);
    }

    private static void members() {
        about("The public face, its constructor and methods");
        must(TurnTops.class.getModifiers() == (Modifier.PUBLIC | Modifier.FINAL), "the class is public and final");
        Constructor<?>[] constructors = TurnTops.class.getDeclaredConstructors();
        must(constructors.length == 1 && constructors[0].getParameterCount() == 0
            && Modifier.isPublic(constructors[0].getModifiers()), "there is one constructor");
        Set<String> found = new TreeSet<>();
        for (Method m : TurnTops.class.getDeclaredMethods()) {
            if (!Modifier.isPrivate(m.getModifiers())) {
                found.add(m.getName() + " " + m.getParameterCount());
                must(m.getModifiers() == Modifier.PUBLIC && m.getReturnType() == int.class, m + " is public");
                for (Class<?> type : m.getParameterTypes()) {
                    must(type == int.class, m + " takes numbers");
                }
            }
        }
        must(found.equals(new TreeSet<>(Arrays.asList(METHODS))), "the methods are those of the document: " + found);
    }

    /** Nothing that a call makes is thrown away, so all that was made can still be reached. */
    private static void room() throws IllegalAccessException {
        about("The room of one object");
        TurnTops x = new TurnTops();
        for (int cakes = 6; cakes >= 1; cakes--) {
            for (int kind = 0; kind <= 3; kind++) {
                for (int strength = kind == 3 ? 1 : 0; strength <= (kind == 3 ? 21 : 0); strength++) {
                    if (x.stack(kind, cakes, strength) == 0) {
                        x.fewest(0, 0);
                        x.leastWork(0);
                        x.undo();
                    }
                }
            }
        }
        Set<Object> seen = Collections.newSetFromMap(new IdentityHashMap<>());
        Deque<Object> waiting = new ArrayDeque<>();
        waiting.add(x);
        seen.add(x);
        long elements = 0;
        while (!waiting.isEmpty()) {
            elements += visit(waiting.remove(), seen, waiting);
        }
        System.out.println("kept at most: " + seen.size() + " objects, " + elements + " fields and elements");
        must(seen.size() <= MOST_OBJECTS && elements <= MOST_ELEMENTS, "the room is large enough");
    }

    private static long visit(Object o, Set<Object> seen, Deque<Object> waiting) throws IllegalAccessException {
        if (o.getClass().isArray()) {
            for (int i = 0; o instanceof Object[] && i < Array.getLength(o); i++) {
                meet(Array.get(o, i), seen, waiting);
            }
            return Array.getLength(o);
        }
        long fields = 0;
        for (Field f : o.getClass().getDeclaredFields()) {
            if (!Modifier.isStatic(f.getModifiers())) {
                fields++;
                f.setAccessible(true);
                if (!f.getType().isPrimitive()) {
                    meet(f.get(o), seen, waiting);
                }
            }
        }
        return fields;
    }

    private static void meet(Object o, Set<Object> seen, Deque<Object> waiting) {
        if (o != null && seen.add(o)) {
            waiting.add(o);
        }
    }
}
