import java.lang.reflect.Constructor;
import java.lang.reflect.Field;
import java.lang.reflect.Method;
import java.lang.reflect.Modifier;
import java.util.NoSuchElementException;
import java.util.TreeSet;

/** The public face is the document's and no more, and no state is static. */
public final class FaceTest {
    private static final String[] FACE = {
        "int feed(int,int,int,int,int)", "int oath(int)", "int fault()", "int where()", "int harbour(int,int)", "int woman(int,int)",
        "int age(int,int)", "int love(int,int)", "long isTrue(int,int,boolean)", "int bestLanding(int)", "int ofAge(int)",
        "int alone(int,int)", "int present(int)", "int belle(int,int)", "int sevens(int,int)", "int byYears(int,int,int)",
        "int bestYears(int)", "long route(int,boolean)", "long mean(int,boolean)", "int routeAt(int,int)", "int routes(int)",
        "int letters(int)", "int lettersAt(int,int)", "int lost()", "int soonest(int)", "int bells()", "int bid(int,int,int,boolean)",
        "int rests(int)", "int rest(int)", "int part(int,int,int)", "int service(int,int)", "int bestHand(int,int)", "int rows()",
        "int could(int)", "int surely(int)", "int firstOf(int)", "int ask()", "int askLeaves()", "int judge()", "int life(int,int)",
        "int lifeBy(int,int)", "int lives(int,int)", "int sail(int)", "int court(int)", "boolean seed(int)", "boolean undo()",
        "int image()", "boolean back(int)", "int led(int)", "int size(int)", "int trouble()"};

    private final Check check = new Check("FaceTest");
    private final TreeSet<String> publicNames = new TreeSet<>();

    public static void main(String[] args) throws Exception {
        FaceTest t = new FaceTest();
        t.methods();
        t.rest();
        for (Class<?> inside : SworeCaptain.class.getDeclaredClasses()) {
            t.inside(inside);
        }
        t.check.end();
    }

    private void methods() {
        TreeSet<String> left = new TreeSet<>();
        for (String one : FACE) {
            left.add(one);
            publicNames.add(one.substring(one.indexOf(' ') + 1, one.indexOf('(')));
        }
        for (Method m : SworeCaptain.class.getDeclaredMethods()) {
            if (Modifier.isPublic(m.getModifiers())) {
                StringBuilder text = new StringBuilder(m.getReturnType() + " " + m.getName() + "(");
                for (Class<?> p : m.getParameterTypes()) {
                    text.append(text.charAt(text.length() - 1) == '(' ? "" : ",").append(p);
                }
                check.due("the document has " + text, left.remove(text + ")"), true);
                check.due(m.getName() + " throws", m.getExceptionTypes().length, m.getName().equals("led") ? 1 : 0);
            } else {
                check.due(m.getName() + " is private", Modifier.isPrivate(m.getModifiers()), true);
                check.due(m.getName() + " bears no public one's name", publicNames.contains(m.getName()), false);
            }
        }
        check.due("calls that are missing: " + left, left.size(), 0);
    }

    private void rest() throws Exception {
        check.due("final", Modifier.isFinal(SworeCaptain.class.getModifiers()), true);
        check.due("constructors", SworeCaptain.class.getDeclaredConstructors().length, 1);
        Constructor<?> made = SworeCaptain.class.getDeclaredConstructor();
        check.due("the constructor is public", Modifier.isPublic(made.getModifiers()), true);
        check.due("led throws", SworeCaptain.class.getMethod("led", int.class).getExceptionTypes()[0] == NoSuchElementException.class, true);
        for (Field f : SworeCaptain.class.getDeclaredFields()) {
            check.due(f.getName() + " is private but for NONE", Modifier.isPrivate(f.getModifiers()), !f.getName().equals("NONE"));
            stateless(f);
        }
    }

    private void inside(Class<?> c) {
        check.due(c + " is static", Modifier.isStatic(c.getModifiers()), true);
        check.due(c + " is not public", Modifier.isPublic(c.getModifiers()) || Modifier.isProtected(c.getModifiers()), false);
        for (Field f : c.getDeclaredFields()) {
            stateless(f);
        }
        for (Method m : c.getDeclaredMethods()) {
            check.due(c + "." + m.getName() + " bears no public one's name", publicNames.contains(m.getName()), false);
        }
    }

    private void stateless(Field f) {
        boolean state = Modifier.isStatic(f.getModifiers()) && !Modifier.isFinal(f.getModifiers());
        check.due(f + " is no static state", state, false);
    }
}
