import java.lang.reflect.Constructor;
import java.lang.reflect.Field;
import java.lang.reflect.Method;
import java.lang.reflect.Modifier;
import java.util.Set;
import java.util.TreeSet;

/** The public face: every constant, the constructor and the methods of the document, and no other. */
public final class FaceTest {
    private static final String FACE =
            "int row(int,int)|int lay(int,int,int)|int at(int,int)|int tear(int)|int copy(int,int,int,int,int)"
            + "|int mean(int)|int text(int,int)|int put(int,int,int)|int fault(int)|int harbour(int)"
            + "|int ship(int,int)|int mark(int,int)|int age(int,int)|int come(int)|int leave(int)|int pay(int)"
            + "|int tea(int)|int tide()|int year()|int undo(int)|int keep(int)|int on(int)|int berths(int)"
            + "|int hours(int)|int ground()|int enter(int)|int order(int)|int when(int,int)|int built(int,int)"
            + "|int least(int,int)|int wrong(int)|int kinds(int,int)|int test(int,int)|int duel(int)"
            + "|int odds(int,int,int)|int mid(int,int)|int lots(int,int)|int asked()|long upper()|long lower()"
            + "|int count(int)|int finding()|int findings(int)|long digest()";

    public static void main(String[] args) throws Exception {
        Due due = new Due("FaceTest");
        Set<String> want = new TreeSet<>(Set.of(FACE.split("\\|")));
        Set<String> got = new TreeSet<>();
        for (Method m : BerthAges.class.getDeclaredMethods()) {
            if (!Modifier.isPrivate(m.getModifiers())) {
                got.add(told(m));
                due.is(m + " is public and no static", m.getModifiers(), Modifier.PUBLIC);
            } else {
                due.is(m + " bears a public name", FACE.contains(" " + m.getName() + "(") ? 1 : 0, 0);
            }
        }
        due.is("methods " + got + " for " + want, got.equals(want) ? 1 : 0, 1);
        Constructor<?>[] made = BerthAges.class.getDeclaredConstructors();
        due.is("constructors", made.length, 1);
        due.is("constructor's parameters", made[0].getParameterCount(), 0);
        due.is("class is public and final", BerthAges.class.getModifiers(), Modifier.PUBLIC | Modifier.FINAL);
        int constants = 0;
        for (Field f : BerthAges.class.getDeclaredFields()) {
            if (!Modifier.isPrivate(f.getModifiers())) {
                constants++;
                due.is(f + " is a constant", f.getModifiers(), Modifier.PUBLIC | Modifier.STATIC | Modifier.FINAL);
            }
        }
        due.is("constants", constants, 6);
        due.is("BAD", BerthAges.BAD, -1);
        due.is("FULL", BerthAges.FULL, -2);
        due.is("FINDING", BerthAges.FINDING, -3);
        due.is("STATE", BerthAges.STATE, -4);
        due.is("SPENT", BerthAges.SPENT, -6);
        due.is("NONE", BerthAges.NONE, -9);
        due.end();
    }

    private static String told(Method m) {
        StringBuilder text = new StringBuilder(m.getReturnType().getName()).append(' ').append(m.getName()).append('(');
        for (Class<?> type : m.getParameterTypes()) {
            text.append(text.charAt(text.length() - 1) == '(' ? "" : ",").append(type.getName());
        }
        return text.append(')').toString();
    }
}
