import java.lang.reflect.Constructor;
import java.lang.reflect.Field;
import java.lang.reflect.Method;
import java.lang.reflect.Modifier;
import java.util.ArrayList;
import java.util.Arrays;
import java.util.List;
import java.util.Set;
import java.util.TreeSet;

/** The class has the document's face and no more (rules 1 and 2 of LANGUAGE.md too). */
public final class FaceTest {
    private static final String[] FACE = {"arm/2", "beat/3", "can/3", "count/1", "drop/1", "gone/1",
        "image/1", "lanes/2", "level/1", "place/2", "plan/1", "reach/3", "restore/1", "see/4",
        "set/2", "speed/2", "takes/2", "thing/2", "tray/2"};
    private static final String[] CONSTANTS = {"UNKNOWN=-1", "OUTSIDE=-2", "STATE=-3", "FULL=-4",
        "NO=-5", "NONE=-6"};
    private static int wrong = 0;

    public static void main(String[] args) throws Exception {
        methods();
        constants();
        others();
        names();
        System.out.println(wrong == 0 ? "the face is as due" : wrong + " faults in the face");
        if (wrong != 0) {
            System.exit(1);
        }
    }

    private static void due(boolean right, String fault) {
        if (!right) {
            wrong++;
            System.out.println(fault);
        }
    }

    private static void methods() {
        Set<String> found = new TreeSet<>();
        for (Method m : BeltArms.class.getDeclaredMethods()) {
            if (Modifier.isPrivate(m.getModifiers())) {
                continue;
            }
            found.add(m.getName() + "/" + m.getParameterCount());
            due(Modifier.isPublic(m.getModifiers()) && !Modifier.isStatic(m.getModifiers()),
                    m + " is not of the face");
            due(m.getReturnType() == int.class, m + " does not answer an int");
            for (Class<?> type : m.getParameterTypes()) {
                due(type == int.class, m + " takes another type than int");
            }
        }
        due(found.equals(new TreeSet<>(Arrays.asList(FACE))), "the methods are " + found);
    }

    private static void constants() throws IllegalAccessException {
        List<String> found = new ArrayList<>();
        for (Field f : BeltArms.class.getDeclaredFields()) {
            if (Modifier.isPrivate(f.getModifiers())) {
                continue;
            }
            int mods = f.getModifiers();
            due(Modifier.isPublic(mods) && Modifier.isStatic(mods) && Modifier.isFinal(mods)
                    && f.getType() == int.class, f + " is no constant of the face");
            found.add(f.getName() + "=" + f.getInt(null));
        }
        due(new TreeSet<>(found).equals(new TreeSet<>(Arrays.asList(CONSTANTS))),
                "the constants are " + found);
    }

    private static void others() {
        int mods = BeltArms.class.getModifiers();
        due(Modifier.isPublic(mods) && Modifier.isFinal(mods), "the class is not public and final");
        Constructor<?>[] made = BeltArms.class.getDeclaredConstructors();
        due(made.length == 1 && made[0].getParameterCount() == 0
                && Modifier.isPublic(made[0].getModifiers()), "the constructor is another one");
        due(BeltArms.class.getDeclaredClasses().length <= 12, "there are more than twelve classes");
        for (Class<?> inner : BeltArms.class.getDeclaredClasses()) {
            int inside = inner.getModifiers();
            due(Modifier.isStatic(inside) && !Modifier.isPublic(inside)
                    && !Modifier.isProtected(inside), inner + " is not private and static");
            int fields = 0;
            for (Field f : inner.getDeclaredFields()) {
                fields += Modifier.isStatic(f.getModifiers()) ? 0 : 1;
            }
            due(fields <= 20, inner + " has more than twenty fields");
        }
    }

    /** No private method, nor one of a class inside, bears a name of the face. */
    private static void names() {
        Set<String> face = new TreeSet<>();
        for (String each : FACE) {
            face.add(each.substring(0, each.indexOf('/')));
        }
        List<Class<?>> all = new ArrayList<>(Arrays.asList(BeltArms.class.getDeclaredClasses()));
        all.add(BeltArms.class);
        for (Class<?> type : all) {
            for (Method m : type.getDeclaredMethods()) {
                boolean open = type == BeltArms.class && Modifier.isPublic(m.getModifiers());
                due(open || !face.contains(m.getName()), m + " bears a name of the face");
                due(m.getParameterCount() <= 7, m + " takes more than seven parameters");
            }
        }
    }
}
