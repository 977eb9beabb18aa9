import java.lang.reflect.Constructor;
import java.lang.reflect.Field;
import java.lang.reflect.Method;
import java.lang.reflect.Modifier;
import java.util.Arrays;
import java.util.NoSuchElementException;
import java.util.Set;
import java.util.TreeSet;

/** The public face of the document, and rule 1 of LANGUAGE.md: nothing else is to be seen. */
public final class FaceTest {
    private static final Check CHECK = new Check("FaceTest");
    private static final String FACE = "int feed(int,int,int,int,int);int city(int);int fault();int where();"
        + "int gate(int,int);int fits(int,boolean,int,int);int bars(int,int,boolean);int deepest(int);"
        + "int deepestCut(int);int pay(int,int,int,int,int);int hours(int,int,int,int,int);int payOf(int);"
        + "int hoursOf(int);int loadsOf(int);int gateOf(int,int);int all();int pass(int);boolean anew();int loads();"
        + "int load(int,int);int cart(int);int busy(int);int tolls(int);int worked(int);int waited();int mark();"
        + "boolean back(int);int saves(int,int,int);int breach(int,int);int ram(int,int,int);"
        + "int ramBy(int,int,int,int,int);int hold(int);int stand();int theft(int,int,int,int,boolean);"
        + "boolean widen(int,int,int);int dig(int,int,int,int,int,int);boolean close(int);boolean undo();"
        + "int led(int);int size(int);int trouble()";

    public static void main(String[] args) throws Exception {
        Set<String> told = new TreeSet<>(Arrays.asList(FACE.split(";")));
        Set<String> names = new TreeSet<>();
        Set<String> found = new TreeSet<>();
        for (Method m : NarrowRings.class.getDeclaredMethods()) {
            if (Modifier.isPublic(m.getModifiers())) {
                found.add(shape(m));
                names.add(m.getName());
            }
        }
        CHECK.due("public methods " + found, found.equals(told), true);
        CHECK.due("final class", Modifier.isFinal(NarrowRings.class.getModifiers()), true);
        CHECK.due("NONE", NarrowRings.NONE, -1);
        CHECK.due("NONE is public", Modifier.isPublic(NarrowRings.class.getField("NONE").getModifiers()), true);
        Method led = NarrowRings.class.getMethod("led", int.class);
        CHECK.due("led throws", led.getExceptionTypes().length == 1
            && led.getExceptionTypes()[0] == NoSuchElementException.class, true);
        Constructor<?>[] constructors = NarrowRings.class.getDeclaredConstructors();
        CHECK.due("constructors", constructors.length, 1);
        CHECK.due("its parameters", constructors[0].getParameterCount(), 0);
        CHECK.due("it is public", Modifier.isPublic(constructors[0].getModifiers()), true);
        hidden(names);
        CHECK.end();
    }

    private static String shape(Method m) {
        StringBuilder b = new StringBuilder(m.getReturnType().getName()).append(' ').append(m.getName()).append('(');
        for (Class<?> p : m.getParameterTypes()) {
            b.append(b.charAt(b.length() - 1) == '(' ? "" : ",").append(p.getName());
        }
        return b.append(')').toString();
    }

    private static void hidden(Set<String> names) {
        for (Method m : NarrowRings.class.getDeclaredMethods()) {
            boolean seen = Modifier.isPublic(m.getModifiers());
            CHECK.due("private " + m, seen || Modifier.isPrivate(m.getModifiers()), true);
            CHECK.due("no public one's name " + m, seen || !names.contains(m.getName()), true);
        }
        for (Field f : NarrowRings.class.getDeclaredFields()) {
            CHECK.due("private " + f, f.getName().equals("NONE") || Modifier.isPrivate(f.getModifiers()), true);
        }
        CHECK.due("at most twelve classes", NarrowRings.class.getDeclaredClasses().length < 12, true);
        for (Class<?> inside : NarrowRings.class.getDeclaredClasses()) {
            CHECK.due("hidden " + inside, Modifier.isPublic(inside.getModifiers()), false);
            CHECK.due("static " + inside, Modifier.isStatic(inside.getModifiers()), true);
            int fields = 0;
            for (Field f : inside.getDeclaredFields()) {
                boolean constant = Modifier.isStatic(f.getModifiers());
                CHECK.due("static fields are final " + f, !constant || Modifier.isFinal(f.getModifiers()), true);
                fields += constant ? 0 : 1;
            }
            CHECK.due("at most twenty fields " + inside, fields <= 20, true);
            for (Method m : inside.getDeclaredMethods()) {
                CHECK.due("no public one's name " + m, names.contains(m.getName()), false);
                CHECK.due("at most seven parameters " + m, m.getParameterCount() <= 7, true);
            }
        }
    }
}
