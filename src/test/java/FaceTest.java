import java.lang.reflect.Constructor;
import java.lang.reflect.Field;
import java.lang.reflect.Method;
import java.lang.reflect.Modifier;
import java.util.Arrays;
import java.util.TreeSet;

/** The public face: its constants, its methods and nothing else that another class could reach. */
public final class FaceTest {
    public static void main(String[] args) {
        constants();
        members();
        classesInside();
        Check.end();
    }

    private static void constants() {
        Check.same("GARBLED", TradeLink.GARBLED, 0);
        Check.same("IGNORED", TradeLink.IGNORED, 1);
        Check.same("DONE", TradeLink.DONE, 2);
        Check.same("EARLY", TradeLink.EARLY, 3);
        Check.same("LOW", TradeLink.LOW, 4);
    }

    private static void members() {
        TreeSet<String> seen = new TreeSet<>();
        for (Field field : TradeLink.class.getDeclaredFields()) {
            note(seen, field.getModifiers(), field.toString());
        }
        for (Method method : TradeLink.class.getDeclaredMethods()) {
            note(seen, method.getModifiers(), method.toString());
        }
        for (Constructor<?> constructor : TradeLink.class.getDeclaredConstructors()) {
            note(seen, constructor.getModifiers(), constructor.toString());
        }
        String state = " throws java.lang.IllegalStateException";
        String argument = "java.lang.IllegalArgumentException";
        String index = "java.lang.IndexOutOfBoundsException";
        String none = "java.util.NoSuchElementException";
        TreeSet<String> due = new TreeSet<>(Arrays.asList(
            "public static final int TradeLink.GARBLED",
            "public static final int TradeLink.IGNORED",
            "public static final int TradeLink.DONE",
            "public static final int TradeLink.EARLY",
            "public static final int TradeLink.LOW",
            "public TradeLink()",
            "public int TradeLink.give(int,int,boolean,int,int,int) throws " + argument,
            "public int TradeLink.spoil(int,int) throws " + index + "," + argument,
            "public int TradeLink.add(int) throws " + argument + ",java.lang.IllegalStateException",
            "public int TradeLink.take()" + state,
            "public int TradeLink.tick()",
            "public boolean TradeLink.restart()",
            "public int TradeLink.fill(int,int) throws " + none + "," + argument,
            "public int TradeLink.frames()",
            "public int TradeLink.length(int) throws " + index,
            "public int TradeLink.octet(int,int) throws " + index,
            "public int TradeLink.session(int) throws " + index,
            "public int TradeLink.order(int,int) throws " + none + "," + index));
        Check.same("the face", seen.toString(), due.toString());
        Check.same("final", Modifier.isFinal(TradeLink.class.getModifiers()), true);
    }

    /** LANGUAGE.md, rule 1: they are static and not public, and no method of theirs bears a name of the face. */
    private static void classesInside() {
        TreeSet<String> face = new TreeSet<>();
        for (Method method : TradeLink.class.getMethods()) {
            face.add(method.getName());
        }
        Check.same("the face has take", face.contains("take"), true);
        for (Class<?> inside : TradeLink.class.getDeclaredClasses()) {
            String name = inside.getSimpleName();
            Check.same(name + " is static", Modifier.isStatic(inside.getModifiers()), true);
            Check.same(name + " is public", Modifier.isPublic(inside.getModifiers()), false);
            for (Method method : inside.getDeclaredMethods()) {
                Check.same(name + "." + method.getName(), face.contains(method.getName()), false);
            }
        }
        for (Method method : TradeLink.class.getDeclaredMethods()) {
            if (Modifier.isPrivate(method.getModifiers())) {
                Check.same(method.getName(), face.contains(method.getName()), false);
            }
        }
    }

    private static void note(TreeSet<String> seen, int modifiers, String text) {
        if (!Modifier.isPrivate(modifiers)) {
            seen.add(text);
        }
    }
}
