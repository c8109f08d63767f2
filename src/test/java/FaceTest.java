import java.lang.reflect.Constructor;
import java.lang.reflect.Field;
import java.lang.reflect.Method;
import java.lang.reflect.Modifier;
import java.util.Arrays;
import java.util.TreeSet;

/** The class shows the document's face and nothing else. */
public final class FaceTest {
    private static final String[] FACE = {
        "public boolean SharesDesk.project(int,int)",
        "public boolean SharesDesk.drop(int)",
        "public boolean SharesDesk.budget(int)",
        "public boolean SharesDesk.voter(int)",
        "public boolean SharesDesk.strike(int)",
        "public boolean SharesDesk.approve(int,int,boolean)",
        "public int SharesDesk.run()",
        "public int SharesDesk.raise(int,int) throws java.lang.IllegalArgumentException",
        "public int SharesDesk.chosen(int)",
        "public int SharesDesk.spent()",
        "public int SharesDesk.purse(int,int,int)",
        "public int SharesDesk.paid(int,int,int,int)",
        "public int SharesDesk.rate(int,int,int)",
        "public int SharesDesk.missing(int,int,int)",
        "public int SharesDesk.served(int)",
        "public int SharesDesk.passedOver(int) throws java.lang.IllegalArgumentException",
        "public int SharesDesk.receipt(int,int)",
    };

    public static void main(String[] args) {
        Check check = new Check();
        TreeSet<String> shown = new TreeSet<>();
        TreeSet<String> names = new TreeSet<>();
        for (Method m : SharesDesk.class.getDeclaredMethods()) {
            if (!Modifier.isPrivate(m.getModifiers())) {
                shown.add(m.toString());
                names.add(m.getName());
            }
        }
        check.due("the methods", shown.toString(), new TreeSet<>(Arrays.asList(FACE)).toString());
        check.due("final", Modifier.isFinal(SharesDesk.class.getModifiers()), true);
        Constructor<?>[] constructors = SharesDesk.class.getDeclaredConstructors();
        check.due("one constructor", constructors.length, 1);
        check.due("the constructor", constructors[0].toString(), "public SharesDesk()");
        for (Field f : SharesDesk.class.getDeclaredFields()) {
            check.due("private " + f.getName(), Modifier.isPrivate(f.getModifiers()), true);
        }
        noPrivateNamesake(check, SharesDesk.class, names);
        for (Class<?> inside : SharesDesk.class.getDeclaredClasses()) {
            check.due("static " + inside.getName(), Modifier.isStatic(inside.getModifiers()), true);
            noPrivateNamesake(check, inside, names);
        }
        check.end();
    }

    private static void noPrivateNamesake(Check check, Class<?> type, TreeSet<String> names) {
        for (Method m : type.getDeclaredMethods()) {
            boolean hidden = type != SharesDesk.class || Modifier.isPrivate(m.getModifiers());
            check.due("a name of the face again, " + m, hidden && names.contains(m.getName()), false);
        }
    }
}
