import java.lang.reflect.Constructor;
import java.lang.reflect.Field;
import java.lang.reflect.Method;
import java.lang.reflect.Modifier;
import java.util.Arrays;
import java.util.TreeSet;

/** The class shows the document's face and nothing else. */
public final class FaceTest {
    private static final String[] FACE = {
        "public boolean SharesDesk.project(int,int)",
        "public boolean SharesDesk.drop(int)",
        "public boolean SharesDesk.budget(int)",
        "public boolean SharesDesk.voter(int)",
        "public boolean SharesDesk.strike(int)",
        "public boolean SharesDesk.approve(int,int,boolean)",
        "public int SharesDesk.run()",
        "public int SharesDesk.raise(int,int) throws java.lang.IllegalArgumentException",
        "public int SharesDesk.chosen(int)",
        "public int SharesDesk.spent()",
        "public int SharesDesk.purse(int,int,int)",
        "public int SharesDesk.paid(int,int,int,int)",
        "public int SharesDesk.rate(int,int,int)",
        "public int SharesDesk.missing(int,int,int)",
        "public int SharesDesk.served(int)",
        "public int SharesDesk.passedOver(int) throws java.lang.IllegalArgumentException",
        "public int SharesDesk.receipt(int,int)",
    };

    private final Check check = new Check();
    private final TreeSet<String> names = new TreeSet<>();

    public static void main(String[] args) {
        FaceTest test = new FaceTest();
        test.theClass();
        test.methods();
        test.constructor();
        test.nothingElse();
        test.check.end();
    }

    private void theClass() {
        check.about("The public face: public final class SharesDesk");
        check.due("the class", Modifier.toString(SharesDesk.class.getModifiers()), "public final");
        check.due("its package", SharesDesk.class.getPackageName(), "");
        check.due("what it extends", SharesDesk.class.getSuperclass().getSimpleName(), "Object");
        check.due("what it implements", SharesDesk.class.getInterfaces().length, 0);
    }

    private void methods() {
        check.about("The public face: its methods");
        TreeSet<String> shown = new TreeSet<>();
        for (Method m : SharesDesk.class.getDeclaredMethods()) {
            if (!Modifier.isPrivate(m.getModifiers()) && !m.isSynthetic()) {
                shown.add(m.toString());
                names.add(m.getName());
            }
        }
        check.due("the methods", shown.toString(), new TreeSet<>(Arrays.asList(FACE)).toString());
    }

    private void constructor() {
        check.about("The public face: public SharesDesk()");
        Constructor<?>[] constructors = SharesDesk.class.getDeclaredConstructors();
        check.due("one constructor", constructors.length, 1);
        check.due("the constructor", constructors[0].toString(), "public SharesDesk()");
    }

    private void nothingElse() {
        check.about("LANGUAGE 1: no other public, protected or package-visible member, but for the classes inside");
        for (Field f : SharesDesk.class.getDeclaredFields()) {
            check.due("private " + f.getName(), Modifier.isPrivate(f.getModifiers()) || f.isSynthetic(), true);
        }
        noPrivateNamesake(SharesDesk.class);
        for (Class<?> inside : SharesDesk.class.getDeclaredClasses()) {
            int seen = inside.getModifiers() & (Modifier.PUBLIC | Modifier.PROTECTED);
            check.due("seen from outside, " + inside.getName(), Modifier.toString(seen), "");
            check.due("static, " + inside.getName(), Modifier.isStatic(inside.getModifiers()), true);
            noPrivateNamesake(inside);
        }
    }

    private void noPrivateNamesake(Class<?> type) {
        for (Method m : type.getDeclaredMethods()) {
            boolean hidden = Modifier.isPrivate(m.getModifiers()) && !m.isSynthetic();
            check.due("a private one with a public one's name, " + m, hidden && names.contains(m.getName()), false);
        }
    }
}
