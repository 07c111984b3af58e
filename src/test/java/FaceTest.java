import java.lang.reflect.Array;
import java.lang.reflect.Constructor;
import java.lang.reflect.Field;
import java.lang.reflect.Member;
import java.lang.reflect.Method;
import java.lang.reflect.Modifier;
import java.util.ArrayList;
import java.util.Arrays;
import java.util.HashSet;
import java.util.IdentityHashMap;
import java.util.List;
import java.util.Map;
import java.util.Set;

/** The public face is the document's, and nothing else of the class can be seen (LANGUAGE.md, rules 1, 5, 11 and 12). */
final class FaceTest {
    private static final String[] FACE = {
        "int write(int,long)", "int wipe()", "int fault(boolean)", "int lay(boolean)",
        "int drift(int,int,int,int,int)", "int worlds(int,int)", "int ashore(int,int,int,int)",
        "int find(int,int,int)", "int from(int)", "int parted(int)", "int report(int,int,int,int,boolean)",
        "int there(int,int,int)", "int missed(int)", "int left(int)", "long hope(int,int,int,int)",
        "long walk(int,int,int,int)", "long walks(int,int,int,int,int)", "int number(int)", "int fell(int)",
        "int most(int,int)", "int glass(int,int,int)", "int life(int,int)", "int whose(int,int,int,int)",
        "int two(int,int,int,int,int)", "int show(int,int,int)", "int cost(int,int)", "int parting(int,int)",
        "int shown(int,int,int)", "int keep()", "int back()", "int count(int)"};

    private static final Checks checks = new Checks("FaceTest");

    public static void main(String[] args) throws IllegalAccessException {
        constants();
        methods();
        constructors();
        classesInside();
        room();
        checks.end();
    }

    private static void constants() {
        checks.due("BAD", GaleBeach.BAD, -1);
        checks.due("NO", GaleBeach.NO, -2);
        checks.due("FULL", GaleBeach.FULL, -3);
        checks.due("NONE", GaleBeach.NONE, -4);
        Set<String> seen = new HashSet<>();
        for (Field field : GaleBeach.class.getDeclaredFields()) {
            if (!Modifier.isPrivate(field.getModifiers())) {
                seen.add(field.getName());
                checks.holds(field + " is a public constant", Modifier.isPublic(field.getModifiers())
                        && Modifier.isStatic(field.getModifiers()) && Modifier.isFinal(field.getModifiers()));
            }
            checks.holds(field + " is no static state",
                    !Modifier.isStatic(field.getModifiers()) || Modifier.isFinal(field.getModifiers()));
        }
        checks.holds("the constants: " + seen, seen.equals(Set.of("BAD", "NO", "FULL", "NONE")));
    }

    private static void methods() {
        List<String> seen = new ArrayList<>();
        Set<String> names = new HashSet<>();
        for (Method method : GaleBeach.class.getDeclaredMethods()) {
            if (!Modifier.isPrivate(method.getModifiers())) {
                checks.holds(method + " is public and of objects",
                        (method.getModifiers() & ~Modifier.FINAL) == Modifier.PUBLIC);
                seen.add(described(method));
                names.add(method.getName());
            }
        }
        for (Class<?> inside : allClasses()) {
            for (Method method : inside.getDeclaredMethods()) {
                boolean isFace = inside == GaleBeach.class && Modifier.isPublic(method.getModifiers());
                checks.holds(method + " bears no name of the face", isFace || !names.contains(method.getName()));
                checks.holds(method + " takes seven at most", method.getParameterCount() <= 7);
            }
        }
        List<String> wanted = new ArrayList<>(Arrays.asList(FACE));
        wanted.sort(null);
        seen.sort(null);
        checks.holds("the methods: " + seen, seen.equals(wanted));
    }

    private static String described(Method method) {
        StringBuilder text = new StringBuilder();
        text.append(method.getReturnType()).append(' ').append(method.getName()).append('(');
        for (int i = 0; i < method.getParameterCount(); i++) {
            text.append(i == 0 ? "" : ",").append(method.getParameterTypes()[i]);
        }
        return text.append(')').toString();
    }

    private static void constructors() {
        Constructor<?>[] all = GaleBeach.class.getDeclaredConstructors();
        checks.due("constructors", all.length, 1);
        checks.holds("a public constructor of nothing",
                Modifier.isPublic(all[0].getModifiers()) && all[0].getParameterCount() == 0);
        checks.holds("the class is public and final", Modifier.isPublic(GaleBeach.class.getModifiers())
                && Modifier.isFinal(GaleBeach.class.getModifiers()));
        checks.holds("no package", GaleBeach.class.getPackageName().isEmpty());
    }

    private static void classesInside() {
        checks.holds("some twelve classes", allClasses().size() <= 12);
        for (Class<?> inside : allClasses()) {
            if (inside != GaleBeach.class) {
                checks.holds(inside + " is static", Modifier.isStatic(inside.getModifiers()));
                checks.holds(inside + " is not of the face",
                        !Modifier.isPublic(inside.getModifiers()) && !Modifier.isProtected(inside.getModifiers()));
            }
            int fields = 0;
            for (Field field : inside.getDeclaredFields()) {
                checks.holds(field + " is no static state", !isStatic(field) || Modifier.isFinal(field.getModifiers()));
                fields += isStatic(field) ? 0 : 1;
            }
            checks.holds(inside + " has some twenty fields at most", fields <= 20);
        }
    }

    /** Even 512 objects in one run fill only half of the room that all its calls have; no call makes more (LanguageTest). */
    private static void room() throws IllegalAccessException {
        Map<Object, Boolean> seen = new IdentityHashMap<>();
        int elements = countRoom(new GaleBeach(), seen);
        checks.holds(seen.size() + " objects and arrays", 2 * 512 * seen.size() <= 600000);
        checks.holds(elements + " fields and elements", 2 * 512 * elements <= 7300000);
    }

    private static int countRoom(Object thing, Map<Object, Boolean> seen) throws IllegalAccessException {
        if (thing == null || seen.put(thing, true) != null) {
            return 0;
        }
        int many = 0;
        if (thing.getClass().isArray()) {
            many = Array.getLength(thing);
            for (int i = 0; thing instanceof Object[] things && i < things.length; i++) {
                many += countRoom(things[i], seen);
            }
            return many;
        }
        for (Field field : thing.getClass().getDeclaredFields()) {
            if (!isStatic(field)) {
                many++;
                field.setAccessible(true);
                many += field.getType().isPrimitive() ? 0 : countRoom(field.get(thing), seen);
            }
        }
        return many;
    }

    private static boolean isStatic(Member member) {
        return Modifier.isStatic(member.getModifiers());
    }

    private static List<Class<?>> allClasses() {
        List<Class<?>> all = new ArrayList<>();
        all.add(GaleBeach.class);
        all.addAll(Arrays.asList(GaleBeach.class.getDeclaredClasses()));
        return all;
    }
}
