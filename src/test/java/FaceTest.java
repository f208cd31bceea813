import java.lang.reflect.Constructor;
import java.lang.reflect.Field;
import java.lang.reflect.Member;
import java.lang.reflect.Method;
import java.lang.reflect.Modifier;
import java.nio.file.Files;
import java.nio.file.Path;
import java.util.TreeSet;

/** The public face: just what the document's block lists, with its throws clauses, and nothing else to be seen. */
public final class FaceTest {
    public static void main(String[] args) throws Exception {
        Class<?> face = BatchWarehouse.class;
        Check.note("class", "public final", Modifier.toString(face.getModifiers()));
        TreeSet<String> got = new TreeSet<>();
        for (Field f : face.getDeclaredFields()) {
            if (isSeen(f)) {
                got.add(Modifier.toString(f.getModifiers()) + " " + f.getType().getSimpleName() + " " + f.getName() + " = " + f.get(null));
            }
        }
        for (Constructor<?> c : face.getDeclaredConstructors()) {
            if (isSeen(c)) {
                got.add("public " + c.getDeclaringClass().getSimpleName() + types(c.getParameterTypes()) + thrown(c.getExceptionTypes()));
            }
        }
        TreeSet<String> hidden = new TreeSet<>();
        for (Method m : face.getDeclaredMethods()) {
            if (isSeen(m)) {
                got.add("public " + m.getReturnType().getSimpleName() + " " + m.getName() + types(m.getParameterTypes()) + thrown(m.getExceptionTypes()));
            } else {
                hidden.add(m.getName());
            }
        }
        Check.note("face", listed(), got);
        for (Class<?> inside : face.getDeclaredClasses()) {
            Check.note(inside + " is static", true, Modifier.isStatic(inside.getModifiers()));
            for (Method m : inside.getDeclaredMethods()) {
                hidden.add(m.getName());
            }
        }
        for (Method m : face.getMethods()) {
            if (m.getDeclaringClass() == face) {
                Check.note("no hidden method has the name " + m.getName(), false, hidden.contains(m.getName()));
            }
        }
        Check.end("FaceTest");
    }

    private static boolean isSeen(Member m) {
        return !Modifier.isPrivate(m.getModifiers());
    }

    private static String types(Class<?>[] types) {
        StringBuilder s = new StringBuilder("(");
        for (Class<?> t : types) {
            s.append(s.length() > 1 ? ", " : "").append(t.getSimpleName());
        }
        return s.append(")").toString();
    }

    private static String thrown(Class<?>[] types) {
        return types.length == 0 ? "" : " throws " + types(types).replaceAll("[()]", "");
    }

    /** The members in the document's block, with the names of parameters left out. */
    private static TreeSet<String> listed() throws Exception {
        String doc = Files.readString(Path.of("../shared/DOC.md"));
        String block = doc.substring(doc.indexOf("public final class"), doc.indexOf("```", doc.indexOf("public final class")));
        TreeSet<String> want = new TreeSet<>();
        for (String line : block.split("\n")) {
            if (line.startsWith("    public")) {
                want.add(line.strip().replace(";", "").replaceAll("(int) [a-z]+([,)])", "$1$2"));
            }
        }
        Check.note("members in the document", 63, want.size());
        return want;
    }
}
