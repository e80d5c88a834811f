import java.lang.reflect.Constructor;
import java.lang.reflect.Executable;
import java.lang.reflect.Field;
import java.lang.reflect.Method;
import java.lang.reflect.Modifier;
import java.util.ArrayList;
import java.util.HashSet;
import java.util.List;
import java.util.Set;
import java.util.TreeSet;

/** The public face, and the rules of the language that reflection can tell. */
public final class FaceTest {
    private static final Due DUE = new Due("FaceTest");
    private static final String INT = "int ";
    private static final String[] FACE = {
        "sheet(int,int,int)", "cell(int,int,int)", "lose(int)", "hits(int,int)", "load(int,int)",
        "mask(int,int,int)", "layer(int,int)", "road(int,int,int,int,int,int)", "span(int,int,int)", "lit()",
        "held(int)", "track(int,int)", "miss(int,int)", "weight(int)", "heap(int)", "blind()", "feed(int)",
        "clear()", "line(int,boolean)", "thin(int,int)", "holds(int)", "of(int,int)", "fire()", "rest(int)",
        "many(int)", "raw(int,int)", "again(int)", "anew()"};
    private static final String[] CONSTANTS = {
        "NUMBER -1", "FULL -2", "MISSING -3", "SIZE -4", "NONE -5", "FAULT -100"};

    public static void main(String[] args) throws IllegalAccessException {
        members();
        classes();
        DUE.end();
    }

    private static void members() throws IllegalAccessException {
        Class<?> hall = TriggerHall.class;
        DUE.holds("public and final", Modifier.isPublic(hall.getModifiers()) && Modifier.isFinal(hall.getModifiers()));
        Set<String> want = new TreeSet<>();
        for (String method : FACE) {
            want.add(INT + method);
        }
        Set<String> got = new TreeSet<>();
        for (Method method : hall.getDeclaredMethods()) {
            if (!Modifier.isPrivate(method.getModifiers())) got.add(told(method));
        }
        DUE.holds("methods " + got, got.equals(want));
        Set<String> constants = new TreeSet<>();
        for (Field field : hall.getDeclaredFields()) {
            if (!Modifier.isPrivate(field.getModifiers())) constants.add(field.getName() + " " + field.getInt(null));
        }
        DUE.holds("constants " + constants, constants.equals(new TreeSet<>(List.of(CONSTANTS))));
        Constructor<?>[] constructors = hall.getDeclaredConstructors();
        DUE.is("constructors", constructors.length, 1);
        DUE.holds("a public one without arguments",
            Modifier.isPublic(constructors[0].getModifiers()) && constructors[0].getParameterCount() == 0);
    }

    private static String told(Method method) {
        List<String> types = new ArrayList<>();
        for (Class<?> type : method.getParameterTypes()) {
            types.add(type.getSimpleName());
        }
        return method.getReturnType().getSimpleName() + " " + method.getName() + "(" + String.join(",", types) + ")";
    }

    private static void classes() {
        List<Class<?>> all = new ArrayList<>(List.of(TriggerHall.class.getDeclaredClasses()));
        for (Class<?> inside : all) {
            DUE.holds("static: " + inside, Modifier.isStatic(inside.getModifiers()));
            int open = inside.getModifiers() & (Modifier.PUBLIC | Modifier.PROTECTED);
            DUE.holds("not for others: " + inside, open == 0);
        }
        all.add(TriggerHall.class);
        DUE.holds("at most twelve classes", all.size() <= 12);
        Set<String> face = new HashSet<>();
        for (String method : FACE) {
            face.add(method.substring(0, method.indexOf('(')));
        }
        for (Class<?> one : all) {
            fields(one);
            List<Executable> calls = new ArrayList<>(List.of(one.getDeclaredMethods()));
            calls.addAll(List.of(one.getDeclaredConstructors()));
            for (Executable call : calls) {
                DUE.holds("at most seven parameters: " + call, call.getParameterCount() <= 7);
                boolean open = Modifier.isPublic(call.getModifiers()) && one == TriggerHall.class;
                DUE.holds("a name of its own: " + call, open || !face.contains(call.getName()));
            }
        }
    }

    private static void fields(Class<?> one) {
        int own = 0;
        for (Field field : one.getDeclaredFields()) {
            boolean constant = Modifier.isStatic(field.getModifiers());
            DUE.holds("static ones are final: " + field, !constant || Modifier.isFinal(field.getModifiers()));
            own += constant ? 0 : 1;
        }
        DUE.holds("at most twenty fields: " + one, own <= 20);
    }
}
