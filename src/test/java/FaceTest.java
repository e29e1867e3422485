import java.lang.reflect.Constructor;
import java.lang.reflect.Field;
import java.lang.reflect.Method;
import java.lang.reflect.Modifier;
import java.nio.file.Files;
import java.nio.file.Path;
import java.util.Set;
import java.util.TreeSet;
import java.util.regex.Matcher;
import java.util.regex.Pattern;

/** "The public face" of the document beside the class: every member that it tells, and no other that can be seen. */
public final class FaceTest extends Bench {
    private static Set<String> told(String face) {
        Set<String> all = new TreeSet<>();
        Matcher constants = Pattern.compile("public static final int ([^;]*);").matcher(face);
        while (constants.find()) {
            for (String one : constants.group(1).split(",")) {
                all.add("public static final int " + one.trim());
            }
        }
        Matcher calls = Pattern.compile("public ([\\w ]+)\\(([^)]*)\\);").matcher(face);
        while (calls.find()) {
            String types = calls.group(2).replaceAll("(\\w+) \\w+", "$1").replace(" ", "");
            all.add("public " + calls.group(1) + "(" + types + ")");
        }
        return all;
    }

    private static String types(Class<?>[] parameters) {
        StringBuilder all = new StringBuilder();
        for (Class<?> type : parameters) {
            all.append(all.length() == 0 ? "" : ",").append(type.getName());
        }
        return "(" + all + ")";
    }

    private static Set<String> seen() throws Exception {
        Set<String> all = new TreeSet<>();
        for (Field f : SeamPull.class.getDeclaredFields()) {
            if (!Modifier.isPrivate(f.getModifiers())) {
                all.add(Modifier.toString(f.getModifiers()) + " " + f.getType() + " " + f.getName() + " = " + f.get(null));
            }
        }
        for (Constructor<?> c : SeamPull.class.getDeclaredConstructors()) {
            if (!Modifier.isPrivate(c.getModifiers())) {
                all.add(Modifier.toString(c.getModifiers()) + " " + c.getName() + types(c.getParameterTypes()));
            }
        }
        for (Method m : SeamPull.class.getDeclaredMethods()) {
            if (!Modifier.isPrivate(m.getModifiers())) {
                all.add(Modifier.toString(m.getModifiers()) + " " + m.getReturnType() + " " + m.getName() + types(m.getParameterTypes()));
            }
        }
        return all;
    }

    private static void classesInside() {
        for (Class<?> inside : SeamPull.class.getDeclaredClasses()) {
            int is = inside.getModifiers();
            holds(inside + " can be seen", !Modifier.isPublic(is) && !Modifier.isProtected(is));
            holds(inside + " is not static", Modifier.isStatic(is));
        }
        for (Field f : SeamPull.class.getDeclaredFields()) {
            holds(f + " is static, but not final", !Modifier.isStatic(f.getModifiers()) || Modifier.isFinal(f.getModifiers()));
        }
    }

    private static void methodsOfOnesOwn(Set<String> face) {
        for (Class<?> inside : SeamPull.class.getDeclaredClasses()) {
            for (Method m : inside.getDeclaredMethods()) {
                holds(m + " bears a name of the face", !face.contains(m.getName()));
            }
        }
        for (Method m : SeamPull.class.getDeclaredMethods()) {
            boolean own = Modifier.isPrivate(m.getModifiers());
            holds(m + " bears a name of the face", !own || !face.contains(m.getName()));
        }
    }

    public static void main(String[] args) throws Exception {
        about("the public face");
        String doc = Files.readString(Path.of("../shared/DOC.md"));
        int start = doc.indexOf("```java"), end = doc.indexOf("```", start + 3);
        holds("the document tells no face", start >= 0 && end > start);
        String face = doc.substring(Math.max(0, start), Math.max(Math.max(0, start), end));
        Set<String> told = told(face), seen = seen();
        // 4 constants, the constructor, and a call for each of the promises 2 to 29
        due("how many members are told", told.size(), 4 + 1 + 28);
        for (String member : told) {
            holds("is not there: " + member, seen.contains(member));
        }
        for (String member : seen) {
            holds("is not told: " + member, told.contains(member));
        }
        due("it is public and final", SeamPull.class.getModifiers(), Modifier.PUBLIC | Modifier.FINAL);
        holds("it is of another class", SeamPull.class.getSuperclass() == Object.class);
        due("interfaces", SeamPull.class.getInterfaces().length, 0);
        holds("it is in a package", SeamPull.class.getPackageName().isEmpty());
        classesInside();
        Set<String> names = new TreeSet<>();
        for (Method m : SeamPull.class.getMethods()) {
            if (m.getDeclaringClass() == SeamPull.class) {
                names.add(m.getName());
            }
        }
        methodsOfOnesOwn(names);
        end("FaceTest");
    }
}
