import java.lang.reflect.Constructor;
import java.lang.reflect.Field;
import java.lang.reflect.Method;
import java.lang.reflect.Modifier;
import java.util.Arrays;
import java.util.TreeSet;

/** The public face: just what the document says, and nothing else that another class could see. */
public final class FaceTest {
    private static final String[] FACE = {
        "public SortPlans()",
        "public final class SortPlans",
        "public int SortPlans.bin(int,int,int)",
        "public int SortPlans.check()",
        "public int SortPlans.compare(int)",
        "public int SortPlans.fault(int,int)",
        "public int SortPlans.hold(int,boolean)",
        "public int SortPlans.overflow(int)",
        "public int SortPlans.print(int)",
        "public int SortPlans.read()",
        "public int SortPlans.swap(int,int)",
        "public int SortPlans.target(int,int)",
        "public static final int SortPlans.OUTSIDE",
        "public static final int SortPlans.STATE",
        "public static final int SortPlans.UNKNOWN",
        "public void SortPlans.sign(int)",
    };

    public static void main(String[] args) {
        Checks c = new Checks();
        TreeSet<String> face = new TreeSet<>();
        face.add(SortPlans.class.toGenericString());
        for (Constructor<?> made : SortPlans.class.getDeclaredConstructors()) {
            addSeen(face, made.getModifiers(), made.toString());
        }
        for (Method method : SortPlans.class.getDeclaredMethods()) {
            addSeen(face, method.getModifiers(), method.toString());
        }
        for (Field field : SortPlans.class.getDeclaredFields()) {
            addSeen(face, field.getModifiers(), field.toString());
        }
        c.dueText("the face", face.toString(), new TreeSet<>(Arrays.asList(FACE)).toString());
        c.due("UNKNOWN", SortPlans.UNKNOWN, -101);
        c.due("OUTSIDE", SortPlans.OUTSIDE, -102);
        c.due("STATE", SortPlans.STATE, -103);
        c.end();
    }

    private static void addSeen(TreeSet<String> face, int modifiers, String member) {
        if (!Modifier.isPrivate(modifiers)) {
            face.add(member);
        }
    }
}
