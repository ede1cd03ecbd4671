import java.lang.reflect.Constructor;
import java.lang.reflect.Field;
import java.lang.reflect.Method;
import java.lang.reflect.Modifier;
import java.util.TreeSet;

/** The face is that of the document and nothing more (LANGUAGE.md, rule 1). */
public final class FaceTest {
    private static final String[] FACE = {
        "int NONE", "PageFeeder()",
        "int append(int int int int int)", "int parse(int) IllegalArgumentException",
        "int size(int) IllegalArgumentException", "int limit(int) IllegalArgumentException",
        "int sheet(int int) IndexOutOfBoundsException IllegalArgumentException", "int stack(int)", "int path(int)",
        "int page(int int) IndexOutOfBoundsException IllegalArgumentException",
        "int job(int int) IndexOutOfBoundsException IllegalArgumentException",
        "boolean isHalf(int) IndexOutOfBoundsException", "int next(int) IllegalArgumentException",
        "int ahead(int int) IllegalArgumentException", "int bestPercent()",
        "int blankFor(int) IllegalArgumentException", "int account(int) IllegalArgumentException",
        "int sheetsAt(int) IllegalArgumentException", "double meanInk()",
        "int feed(int) IllegalArgumentException IllegalStateException", "int putBack() IllegalStateException",
        "int remove() IllegalStateException", "int accept() IllegalStateException",
        "int endJob(int) IllegalArgumentException IllegalStateException",
        "int setLimit(int int) IllegalArgumentException", "boolean setDuplex(boolean)", "int undo()",
        "boolean saveSnapshot(int)", "boolean restoreSnapshot(int)"
    };

    public static void main(String[] args) {
        TreeSet<String> want = new TreeSet<>();
        for (String member : FACE) {
            want.add(member);
        }
        TreeSet<String> got = new TreeSet<>();
        TreeSet<String> hidden = new TreeSet<>();
        for (Field f : PageFeeder.class.getDeclaredFields()) {
            if (!Modifier.isPrivate(f.getModifiers())) {
                got.add(f.getType() + " " + f.getName());
            }
            if (Modifier.isStatic(f.getModifiers())) {
                Check.same(f.getName() + " is final", Modifier.isFinal(f.getModifiers()), true);
            }
        }
        for (Constructor<?> c : PageFeeder.class.getDeclaredConstructors()) {
            if (!Modifier.isPrivate(c.getModifiers())) {
                got.add("PageFeeder(" + names(c.getParameterTypes()) + ")");
            }
        }
        for (Method m : PageFeeder.class.getDeclaredMethods()) {
            if (Modifier.isPrivate(m.getModifiers())) {
                hidden.add(m.getName());
                continue;
            }
            String thrown = names(m.getExceptionTypes());
            got.add(m.getReturnType() + " " + m.getName() + "(" + names(m.getParameterTypes()) + ")"
                    + (thrown.isEmpty() ? "" : " " + thrown));
        }
        Check.sameText("the face", String.join("\n", got), String.join("\n", want));
        for (String member : FACE) {
            String name = member.replaceAll("\\(.*", "").replaceAll(".* ", "");
            Check.same("a private method is called " + name, hidden.contains(name), false);
        }
        int modifiers = PageFeeder.class.getModifiers();
        Check.same("the class is public", Modifier.isPublic(modifiers), true);
        Check.same("the class is final", Modifier.isFinal(modifiers), true);
        Check.same("NONE", PageFeeder.NONE, -1);
        Check.finish();
    }

    private static String names(Class<?>[] types) {
        StringBuilder b = new StringBuilder();
        for (Class<?> type : types) {
            b.append(b.length() > 0 ? " " : "").append(type.getSimpleName());
        }
        return b.toString();
    }
}
