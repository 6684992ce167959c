import java.lang.reflect.Constructor;
import java.lang.reflect.Field;
import java.lang.reflect.Method;
import java.lang.reflect.Modifier;
import java.nio.file.Files;
import java.nio.file.Path;
import java.util.TreeSet;

/** The document's public face, whole and nothing beside it (LANGUAGE.md, rule 1). */
public final class FaceTest {
    public static void main(String[] args) throws Exception {
        Checks c = new Checks();
        TreeSet<String> due = new TreeSet<>();
        boolean inFace = false;
        for (String line : Files.readAllLines(Path.of("../shared/DOC.md"))) {
            String l = line.trim();
            inFace = l.equals("public final class MerryDuchy {") || inFace && !l.equals("}");
            if (inFace && l.startsWith("public ") && l.endsWith(");") || inFace && l.contains(") throws ")) {
                due.add(l.replaceAll(" [a-z]+([,)])", "$1").replace("public ", "").replace(";", ""));
            }
        }
        TreeSet<String> got = new TreeSet<>();
        TreeSet<String> publicNames = new TreeSet<>();
        for (Method m : MerryDuchy.class.getDeclaredMethods()) {
            if (!Modifier.isPrivate(m.getModifiers())) {
                got.add(told(m.getReturnType().getSimpleName() + " " + m.getName(), m.getParameterTypes(), m.getExceptionTypes()));
                publicNames.add(m.getName());
            }
        }
        for (Constructor<?> k : MerryDuchy.class.getDeclaredConstructors()) {
            got.add(told("MerryDuchy", k.getParameterTypes(), k.getExceptionTypes()));
        }
        c.due("the face " + due + " against " + got, got.equals(due), true);
        c.due("how many are in the face", due.size(), 43);
        for (Field f : MerryDuchy.class.getDeclaredFields()) {
            boolean isNone = f.getName().equals("NONE");
            c.due("field " + f.getName() + " is private", Modifier.isPrivate(f.getModifiers()), !isNone);
        }
        c.due("NONE", MerryDuchy.NONE, -1);
        c.due("final", Modifier.isFinal(MerryDuchy.class.getModifiers()), true);
        for (Class<?> inside : MerryDuchy.class.getDeclaredClasses()) {
            c.due(inside + " is static", Modifier.isStatic(inside.getModifiers()), true);
            for (Method m : inside.getDeclaredMethods()) {
                c.due(m + " bears a public name", publicNames.contains(m.getName()), false);
            }
        }
        for (Method m : MerryDuchy.class.getDeclaredMethods()) {
            c.due(m + " bears a public name", Modifier.isPrivate(m.getModifiers()) && publicNames.contains(m.getName()), false);
        }
        c.end("FaceTest");
    }

    private static String told(String name, Class<?>[] takes, Class<?>[] thrown) {
        StringBuilder s = new StringBuilder(name).append('(');
        for (int i = 0; i < takes.length; i++) {
            s.append(i == 0 ? "" : ", ").append(takes[i].getSimpleName());
        }
        s.append(')');
        for (int i = 0; i < thrown.length; i++) {
            s.append(i == 0 ? " throws " : ", ").append(thrown[i].getSimpleName());
        }
        return s.toString();
    }
}
