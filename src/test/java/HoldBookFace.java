import java.lang.reflect.Constructor;
import java.lang.reflect.Field;
import java.lang.reflect.Method;
import java.lang.reflect.Modifier;
import java.util.Arrays;
import java.util.Set;
import java.util.TreeSet;

/** The class shows the document's face, and no other member that is not private. */
public final class HoldBookFace {
    private static final String[] FACE = {
        "public static final int NONE = -1",
        "public static final int FULL = -2",
        "public static final int NOWHERE = -6",
        "public static final int DOUBLE = -8",
        "public static final int STATE = -9",
        "public static final int LATE = -10",
        "public static final int MUCH = -11",
        "public static final int POOR = -12",
        "public HoldBook(int,int)",
        "public int account(long,long) throws IllegalArgumentException,IllegalStateException",
        "public long ask(int,int,long,boolean) throws IllegalArgumentException",
        "public long clear(int,long,boolean) throws IllegalArgumentException",
        "public long undo(int,long,boolean) throws IllegalArgumentException",
        "public int ticks(int) throws IllegalArgumentException,IllegalStateException",
        "public int charge(int,long) throws IllegalArgumentException",
        "public int represent(int) throws IllegalArgumentException",
        "public int decide(int,boolean) throws IllegalArgumentException",
        "public int forget()",
        "public long funds(int,int) throws IllegalArgumentException",
        "public long payment(int,int) throws IllegalArgumentException",
        "public int key(int) throws IllegalArgumentException",
        "public int payments()",
        "public int audit()",
    };

    public static void main(String[] args) throws IllegalAccessException {
        Set<String> due = new TreeSet<>(Arrays.asList(FACE));
        Set<String> seen = faceSeen();
        int wrong = 0;
        for (String member : due) {
            wrong += tellUnless(seen.contains(member), "missing: " + member);
        }
        for (String member : seen) {
            wrong += tellUnless(due.contains(member), "not in the document: " + member);
        }
        int modifiers = HoldBook.class.getModifiers();
        wrong += tellUnless(Modifier.isPublic(modifiers) && Modifier.isFinal(modifiers), "not public and final");
        System.out.println(wrong == 0 ? "the face is the document's" : wrong + " members are not as due");
        if (wrong != 0) {
            System.exit(1);
        }
    }

    private static Set<String> faceSeen() throws IllegalAccessException {
        Set<String> seen = new TreeSet<>();
        for (Field field : HoldBook.class.getDeclaredFields()) {
            if (isShown(field.getModifiers()) && Modifier.isStatic(field.getModifiers())) {
                seen.add(plain(field.toString()) + " = " + field.get(null));
            } else if (isShown(field.getModifiers())) {
                seen.add(plain(field.toString()));
            }
        }
        for (Constructor<?> constructor : HoldBook.class.getDeclaredConstructors()) {
            if (isShown(constructor.getModifiers())) {
                seen.add(plain(constructor.toString()));
            }
        }
        for (Method method : HoldBook.class.getDeclaredMethods()) {
            if (isShown(method.getModifiers())) {
                seen.add(plain(method.toString()));
            }
        }
        return seen;
    }

    private static boolean isShown(int modifiers) {
        return !Modifier.isPrivate(modifiers);
    }

    private static String plain(String member) {
        return member.replace("java.lang.", "").replace("HoldBook.", "");
    }

    private static int tellUnless(boolean right, String text) {
        if (right) {
            return 0;
        }
        System.out.println(text);
        return 1;
    }
}
