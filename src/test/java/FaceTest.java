import java.lang.reflect.Constructor;
import java.lang.reflect.Field;
import java.lang.reflect.Method;
import java.lang.reflect.Modifier;
import java.util.Set;
import java.util.TreeSet;

/** The public face and promise 1: a new object. */
public final class FaceTest {
    private static final String FACE =
        "int row(int,int,int);int set(int,int,int);int copy(int,int,int,int,int);int drop(int);int feed(int);"
        + "int route();int fault();int undo();int hours(int);int swear(int,int,int);int buy(int);"
        + "int snow(int,int);int oath(int,int);int coach(int);int ahead(int);int comesTo(int,int);"
        + "int kept(int);int past(int);int visits(int);int rest();int least(int,int,int);"
        + "int buyOff(int,int,int);int holds(int);int broke(int,int,int);int sworn(int,int,int,int);"
        + "int who(int,int,int,int);int late(int);long lies(int,int,int);int order(int);"
        + "int drawn(int,int,int);int image(int);int restore(int);int kind(int);int as(int,int);"
        + "int ask(int,int);int trace(int);int count(int);int status()";

    public static void main(String[] args) {
        face();
        constants();
        newObject();
        Check.finish();
    }

    private static void face() {
        Set<String> want = new TreeSet<>(Set.of(FACE.split(";")));
        Set<String> got = new TreeSet<>();
        Set<String> hidden = new TreeSet<>();
        for (Method m : OathCoach.class.getDeclaredMethods()) {
            if (Modifier.isPublic(m.getModifiers())) {
                got.add(told(m));
            } else {
                hidden.add(m.getName());
                Check.same(m.getName() + " is private", Modifier.isPrivate(m.getModifiers()) ? 1 : 0, 1);
            }
        }
        if (!want.equals(got)) {
            System.out.println("the face is " + got);
        }
        Check.same("the face is as told", want.equals(got) ? 1 : 0, 1);
        for (Method m : OathCoach.class.getDeclaredMethods()) {
            if (Modifier.isPublic(m.getModifiers())) {
                Check.same(m.getName() + " is public alone", hidden.contains(m.getName()) ? 1 : 0, 0);
            }
        }
        Constructor<?>[] made = OathCoach.class.getDeclaredConstructors();
        Check.same("constructors", made.length, 1);
        Check.same("its parameters", made[0].getParameterCount(), 0);
        Check.same("it is public", Modifier.isPublic(made[0].getModifiers()) ? 1 : 0, 1);
        Check.same("final", Modifier.isFinal(OathCoach.class.getModifiers()) ? 1 : 0, 1);
    }

    private static String told(Method m) {
        StringBuilder text = new StringBuilder();
        text.append(m.getReturnType()).append(' ').append(m.getName()).append('(');
        String between = "";
        for (Class<?> p : m.getParameterTypes()) {
            text.append(between).append(p);
            between = ",";
        }
        return text.append(')').toString();
    }

    private static void constants() {
        Check.same("NONE", OathCoach.NONE, Check.NONE);
        Check.same("BAD", OathCoach.BAD, Check.BAD);
        Check.same("STATE", OathCoach.STATE, Check.STATE);
        Check.same("FULL", OathCoach.FULL, Check.FULL);
        int open = 0;
        for (Field f : OathCoach.class.getDeclaredFields()) {
            open += Modifier.isPrivate(f.getModifiers()) ? 0 : 1;
        }
        Check.same("fields that are not private", open, 4);
    }

    private static void newObject() {
        OathCoach x = new OathCoach();
        for (int what = 0; what <= 7; what++) {
            Check.same("count " + what, x.count(what), 0);
        }
        Check.same("status", x.status(), 0);
        Check.same("fault", x.fault(), 0);
        Check.same("trace", x.trace(0), Check.NONE);
        Check.same("undo", x.undo(), Check.STATE);
        noRouteIsAheadOfBad(x);
        withoutAnOath(x);
        for (int row = 0; row < 8; row++) {
            Check.same("drop " + row, x.drop(row), Check.NULL);
        }
    }

    private static void noRouteIsAheadOfBad(OathCoach x) {
        Check.same("hours", x.hours(-5), Check.STATE);
        Check.same("snow", x.snow(-5, 7), Check.STATE);
        Check.same("coach", x.coach(9), Check.STATE);
        Check.same("ahead", x.ahead(-1), Check.STATE);
        Check.same("past", x.past(10), Check.STATE);
        Check.same("visits", x.visits(61), Check.STATE);
        Check.same("rest", x.rest(), Check.STATE);
        Check.same("buyOff", x.buyOff(10, 0, 2), Check.STATE);
        Check.same("holds", x.holds(0), Check.STATE);
        Check.same("broke", x.broke(8, 0, 0), Check.STATE);
        Check.same("late", x.late(2), Check.STATE);
        Check.same("lies", x.lies(10, 11, 2), Check.STATE);
        Check.same("order", x.order(-1), Check.STATE);
        Check.same("drawn", x.drawn(-1, 0, 2), Check.STATE);
        Check.same("image", x.image(0), Check.STATE);
        Check.same("image is BAD first", x.image(2), Check.BAD);
        Check.same("restore", x.restore(1), Check.STATE);
        Check.same("restore is BAD first", x.restore(-1), Check.BAD);
    }

    private static void withoutAnOath(OathCoach x) {
        Check.same("swear", x.swear(0, 0, 1), Check.BAD);
        Check.same("buy", x.buy(0), Check.BAD);
        Check.same("oath", x.oath(0, 0), Check.BAD);
        Check.same("comesTo", x.comesTo(0, 0), Check.BAD);
        Check.same("kept", x.kept(0), Check.BAD);
        Check.same("least", x.least(0, 0, 1), Check.BAD);
        Check.same("sworn", x.sworn(0, 0, 0, 1), Check.BAD);
        Check.same("who", x.who(0, 0, 0, 1), Check.BAD);
        Check.same("kind", x.kind(0), Check.BAD);
        Check.same("as", x.as(0, 0), Check.BAD);
        Check.same("ask", x.ask(0, 0), Check.BAD);
    }
}
