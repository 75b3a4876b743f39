import java.lang.reflect.Constructor;
import java.lang.reflect.Field;
import java.lang.reflect.Method;
import java.lang.reflect.Modifier;
import java.util.ArrayList;
import java.util.List;
import java.util.TreeSet;

/** The public face is that of the document, and there is nothing beside it. */
public final class FaceTest {
    private static final String[] FACE = {
        "int row(int,int)", "int lay(int,int,int)", "int at(int,int)", "int tear(int)", "int copy(int,int,int,int,int)",
        "int mean(int)", "int text(int,int)", "int put(int,int,int)", "int fault(int)", "int market(int)",
        "int buyer(int,int)", "int stall(int,int)", "int mark(int,int)", "int want(int,int)", "int price(int,int)",
        "int wish(int)", "int minutes(int)", "int undo(int)", "int turn(int)", "int shade()", "int shaded()",
        "int keep(int)", "int on(int)", "int when(int)", "int bought(int)", "int rest()", "int track(int,int)",
        "int best(int,int)", "int spot(int,int)", "int missed(int)", "int fewest()", "int turns()",
        "int fits(int,int,int)", "int could(int,int,int,int)", "int winds(int,int)", "int asked()", "long upper()",
        "long lower()", "int count(int)", "int finding()", "int findings(int)", "long digest()"};

    public static void main(String[] args) {
        Due due = new Due();
        TreeSet<String> open = new TreeSet<>();
        TreeSet<String> hidden = new TreeSet<>();
        for (Method m : ClothMarket.class.getDeclaredMethods()) {
            StringBuilder s = new StringBuilder(m.getReturnType() + " " + m.getName() + "(");
            for (int p = 0; p < m.getParameterCount(); p++) {
                s.append(p == 0 ? "" : ",").append(m.getParameterTypes()[p]);
            }
            if (Modifier.isPrivate(m.getModifiers())) {
                hidden.add(m.getName());
            } else {
                open.add(s.append(")").toString());
                due.is(s + " is public", Modifier.isPublic(m.getModifiers()) ? 1 : 0, 1);
                due.is(s + " is static", Modifier.isStatic(m.getModifiers()) ? 1 : 0, 0);
            }
        }
        for (String call : FACE) {
            due.is("has " + call, open.remove(call) ? 1 : 0, 1);
            String name = call.substring(call.indexOf(' ') + 1, call.indexOf('('));
            due.is("a private method is named " + name, hidden.contains(name) ? 1 : 0, 0);
        }
        due.is("methods beside the face " + open, open.size(), 0);
        constants(due);
        classes(due);
        staticsAreFinal(due);
        due.end("FaceTest");
    }

    private static void constants(Due due) {
        due.is("BAD", ClothMarket.BAD, -1);
        due.is("FULL", ClothMarket.FULL, -2);
        due.is("FINDING", ClothMarket.FINDING, -3);
        due.is("STATE", ClothMarket.STATE, -4);
        due.is("SPENT", ClothMarket.SPENT, -6);
        due.is("NONE", ClothMarket.NONE, -9);
        int open = 0;
        for (Field f : ClothMarket.class.getDeclaredFields()) {
            open += Modifier.isPrivate(f.getModifiers()) ? 0 : 1;
        }
        due.is("fields that are not private", open, 6);
    }

    private static boolean isOfFace(String name) {
        for (String call : FACE) {
            if (call.contains(" " + name + "(")) {
                return true;
            }
        }
        return false;
    }

    private static void staticsAreFinal(Due due) {
        ArrayList<Class<?>> all = new ArrayList<>(List.of(ClothMarket.class.getDeclaredClasses()));
        all.add(ClothMarket.class);
        List<Class<?>> types = List.of(int.class, long.class, boolean.class, char.class, String.class,
            int[].class, long[].class, char[].class, byte[].class);
        for (Class<?> c : all) {
            for (Field f : c.getDeclaredFields()) {
                if (Modifier.isStatic(f.getModifiers())) {
                    due.is(c + "'s " + f.getName() + " is final", Modifier.isFinal(f.getModifiers()) ? 1 : 0, 1);
                    due.is(c + "'s " + f.getName() + " is of a type for constants", types.contains(f.getType()) ? 1 : 0, 1);
                }
            }
        }
    }

    private static void classes(Due due) {
        due.is("public and final", ClothMarket.class.getModifiers(), Modifier.PUBLIC | Modifier.FINAL);
        Constructor<?>[] made = ClothMarket.class.getDeclaredConstructors();
        due.is("constructors", made.length, 1);
        due.is("public constructor", made[0].getModifiers(), Modifier.PUBLIC);
        due.is("its parameters", made[0].getParameterCount(), 0);
        due.is("classes inside are 11 at most", ClothMarket.class.getDeclaredClasses().length <= 11 ? 1 : 0, 1);
        for (Class<?> inside : ClothMarket.class.getDeclaredClasses()) {
            due.is(inside + " is static", Modifier.isStatic(inside.getModifiers()) ? 1 : 0, 1);
            due.is(inside + " is public or protected", inside.getModifiers() & (Modifier.PUBLIC | Modifier.PROTECTED), 0);
            for (Method m : inside.getDeclaredMethods()) {
                due.is(inside + " has a method named as one of the face: " + m.getName(), isOfFace(m.getName()) ? 1 : 0, 0);
            }
            int fields = 0;
            for (Field f : inside.getDeclaredFields()) {
                fields += Modifier.isStatic(f.getModifiers()) ? 0 : 1;
            }
            due.is(inside + " has 20 fields at most", fields <= 20 ? 1 : 0, 1);
        }
    }
}
