import java.lang.reflect.Constructor;
import java.lang.reflect.Field;
import java.lang.reflect.InvocationTargetException;
import java.lang.reflect.Method;
import java.lang.reflect.Modifier;
import java.util.ArrayList;
import java.util.Arrays;
import java.util.List;
import java.util.Set;
import java.util.TreeSet;

/** The face is that of the document and no more; no call throws, whatever it is given. */
final class FaceTest {
    private static final Check C = new Check();
    private static final String FACE =
        "warm 2 scent 3 tub 2 fresh 1 plug 1 bather 2 of 2 change 3 swap 2 go 1 now 1 ahead 3 knows 2 when 2 cold 2 left 2 "
        + "needed 2 swapFor 2 seat 2 kindFor 2 freshFor 2 hides 4 leave 2 plugFor 2 fits 2 kinds 2 plugs 1 odds 2 seed 1 "
        + "feed 2 wipe 0 text 0 hold 2 as 2 sheet 3 write 3 copy 5 load 1 judge 1 image 0 undo 0 tear 0 count 1 status 1";
    private static final int[] EDGES = {Integer.MIN_VALUE, -1000001, -2, -1, 0, 1, 3, 4, 8, 9, 10, 20, 40, 41, 120, 9999, Integer.MAX_VALUE};

    public static void main(String[] args) throws Exception {
        face();
        members();
        neverThrows(new TubSteps());
        neverThrows(Check.spa("sad;spy in 1;clerk in 2;consul in 3;duchess in 4 with 1;lamplighter in 9;bather;sad in 9"));
        C.end();
    }

    private static void face() throws Exception {
        String[] face = FACE.split(" ");
        C.due("how many methods are promised", face.length / 2, 44);
        Set<String> names = new TreeSet<>();
        for (int i = 0; i < face.length; i += 2) {
            Class<?>[] types = new Class<?>[Integer.parseInt(face[i + 1])];
            Arrays.fill(types, int.class);
            Method method = TubSteps.class.getDeclaredMethod(face[i], types);
            C.holds(face[i] + " is public", method.getModifiers() == Modifier.PUBLIC);
            C.holds(face[i] + " answers as told", method.getReturnType() == (face[i].equals("odds") ? long.class : int.class));
            names.add(face[i]);
        }
        for (Method method : TubSteps.class.getDeclaredMethods()) {
            boolean isPublic = Modifier.isPublic(method.getModifiers());
            C.holds(method + " is of the face or private", isPublic || Modifier.isPrivate(method.getModifiers()));
            C.holds(method + " bears no other's name", isPublic == names.contains(method.getName()));
        }
        for (Class<?> inside : TubSteps.class.getDeclaredClasses()) {
            for (Method method : inside.getDeclaredMethods()) {
                C.holds(method + " bears no name of the face", !names.contains(method.getName()));
            }
        }
    }

    private static void members() {
        C.holds("the class is public and final", TubSteps.class.getModifiers() == (Modifier.PUBLIC | Modifier.FINAL));
        Constructor<?>[] made = TubSteps.class.getDeclaredConstructors();
        C.holds("one public constructor", made.length == 1 && made[0].getModifiers() == Modifier.PUBLIC && made[0].getParameterCount() == 0);
        for (Field field : TubSteps.class.getDeclaredFields()) {
            C.holds(field + " is private", Modifier.isPrivate(field.getModifiers()));
        }
        List<Class<?>> all = new ArrayList<>(List.of(TubSteps.class.getDeclaredClasses()));
        C.holds("no class inside is seen from outside", TubSteps.class.getClasses().length == 0);
        for (Class<?> inside : all) {
            C.holds(inside + " is static", Modifier.isStatic(inside.getModifiers()));
        }
        all.add(TubSteps.class);
        for (Class<?> each : all) {
            for (Field field : each.getDeclaredFields()) {
                C.holds(field + ": what is static is final", !Modifier.isStatic(field.getModifiers()) || Modifier.isFinal(field.getModifiers()));
            }
        }
    }

    private static void neverThrows(TubSteps x) throws Exception {
        for (Method method : TubSteps.class.getDeclaredMethods()) {
            if (!Modifier.isPublic(method.getModifiers())) {
                continue;
            }
            int places = method.getParameterCount();
            Object[] values = new Object[places];
            long ways = Math.round(Math.pow(EDGES.length, places));
            // of the ways to fill five places each seventieth is enough
            for (long way = 0; way < ways; way += places == 5 ? 71 : 1) {
                long rest = way;
                for (int i = 0; i < places; i++) {
                    values[i] = EDGES[(int) (rest % EDGES.length)];
                    rest /= EDGES.length;
                }
                C.holds(method.getName() + Arrays.toString(values) + " does not throw", answers(x, method, values));
            }
        }
    }

    private static boolean answers(TubSteps x, Method method, Object[] values) throws Exception {
        try {
            method.invoke(x, values);
            return true;
        } catch (InvocationTargetException thrown) {
            return false;
        }
    }
}
