import java.io.IOException;
import java.lang.reflect.Constructor;
import java.lang.reflect.Field;
import java.lang.reflect.Method;
import java.lang.reflect.Modifier;
import java.nio.file.Files;
import java.nio.file.Path;
import java.util.Arrays;
import java.util.Set;
import java.util.TreeSet;

/** The document's public face and no more of it, and what LANGUAGE.md rules out that can be seen by words. */
public final class FaceTest {
    public static void main(String[] args) throws IOException {
        face();
        source(Files.readString(Path.of("src/main/java/QueryText.java")));
        Check.end();
    }

    private static void face() {
        Class<?> c = QueryText.class;
        Check.due("public final", c.getModifiers(), Modifier.PUBLIC | Modifier.FINAL);
        Set<String> seen = new TreeSet<>();
        for (Method m : c.getDeclaredMethods()) {
            if (!Modifier.isPrivate(m.getModifiers()) && !m.isSynthetic()) {
                String types = Arrays.toString(m.getParameterTypes()).replaceAll("[\\[\\] ]", "");
                seen.add(Modifier.toString(m.getModifiers()) + " " + m.getReturnType() + " " + m.getName() + types);
            }
        }
        for (Field f : c.getDeclaredFields()) {
            if (!Modifier.isPrivate(f.getModifiers())) {
                seen.add(Modifier.toString(f.getModifiers()) + " " + f.getType() + " " + f.getName());
            }
        }
        for (Constructor<?> k : c.getDeclaredConstructors()) {
            seen.add(k.toString());
        }
        Set<String> due = new TreeSet<>(Set.of("public static final int NONE", "public QueryText()",
                "public boolean feedint,int,int,int,int", "public int fieldint,int,int,int", "public int queryint",
                "public int countint", "public int itemint,int", "public int byint", "public int stepint,int",
                "public int literalint", "public long numberint", "public int lengthint", "public int byteOfint,int"));
        if (!seen.equals(due)) {
            Check.due("the face is " + seen, 0, 1);
        }
        for (Class<?> inside : c.getDeclaredClasses()) {
            Check.due(inside + " is static", Modifier.isStatic(inside.getModifiers()) ? 1 : 0, 1);
            for (Method m : inside.getDeclaredMethods()) {
                boolean taken = m.getName().matches("feed|field|query|count|item|by|step|literal|number|length|byteOf");
                Check.due(inside + "." + m.getName() + " bears a public name", taken ? 1 : 0, 0);
            }
        }
    }

    private static void source(String text) {
        String code = text.replaceAll("(?s)/\\*.*?\\*/", "").replaceAll("//[^\n]*", "");
        String[] ruledOut = {"\\bthrow\\b", "\\btry\\b", "\\bcatch\\b", "\\bsynchronized\\b", "\\bassert\\b", "->", "::",
            "\\bimport\\b", "\\bpackage\\b", "Exact\\b", "\\bstatic\\s*\\{", "\\bObject\\b"};
        for (String ruled : ruledOut) {
            Check.due("ruled out: " + ruled, code.split(ruled, -1).length - 1, 0);
        }
    }
}
