import java.nio.file.Files;
import java.nio.file.Path;
import java.util.ArrayList;
import java.util.List;
import java.util.Map;
import java.util.Set;
import java.util.TreeMap;
import java.util.TreeSet;
import java.util.regex.Matcher;
import java.util.regex.Pattern;

/** Looks the source over for what LANGUAGE.md rules out, as far as a text can show it. */
public final class LanguageTest {
    private static final Set<String> FACE = new TreeSet<>(List.of("sheet", "set", "copy", "drop", "feed", "plan", "fault",
        "act", "open", "run", "runs", "cell", "height", "minutes", "gives", "best", "orders", "beforehand", "spots", "crack",
        "warm", "wire", "kind", "as", "ask", "trace", "count", "status"));
    private static int wrong = 0;

    private static void rule(int number, boolean kept, String what) {
        if (!kept) {
            wrong++;
            System.out.println("rule " + number + ": " + what);
        }
    }

    private static String bare(String source) {
        return source.replaceAll("\"[^\"\n]*\"", "\"\"").replaceAll("'(\\\\.|[^'])'", "0")
            .replaceAll("(?s)/\\*.*?\\*/", "").replaceAll("//[^\n]*", "");
    }

    private static List<String> found(String regex, String text) {
        List<String> all = new ArrayList<>();
        Matcher m = Pattern.compile(regex, Pattern.MULTILINE).matcher(text);
        while (m.find()) {
            all.add(m.group(m.groupCount()));
        }
        return all;
    }

    private static void faceIsKept(String code) {
        List<String> open = found("^    public int (\\w+)\\(", code);
        rule(1, new TreeSet<>(open).equals(FACE) && open.size() == FACE.size(), "the face is not the document's: " + open);
        for (String name : found("^ {4,}(?:private |static |final )*[\\w\\[\\]]+ (\\w+)\\([^;=]*\\) \\{", code.replace("    public int ", ""))) {
            rule(1, !FACE.contains(name), "a method of one's own bears the name " + name);
        }
        for (String line : found("^    (?! |public |private |\\}|@)(.+)$", code)) {
            rule(1, false, "neither public nor private: " + line);
        }
        rule(2, found("^    private static (?:final |abstract )?class (\\w+)", code).size() == found("^ +.*\\bclass (\\w+)", code).size(),
            "a class inside is not private and static");
    }

    private static void wordsAreKept(String code) {
        for (String word : found("\\b(throw|throws|try|catch|synchronized|assert|protected|volatile|native|instanceof|Object|Exception)\\b", code)) {
            rule(6, false, word + " is used");
        }
        rule(2, !code.contains("->") && !code.contains("::"), "a lambda or a reference to a method");
        rule(5, !code.contains("static {"), "a static initialiser");
        for (String field : found("^ +private static (?!final )(\\w+ \\w+ ?[=;])", code)) {
            rule(5, false, "a static field that is not final: " + field);
        }
        for (String name : found("^import (.*);", code)) {
            rule(4, name.equals("java.util.Arrays"), "import of " + name);
        }
        for (String call : found("\\b((?:Arrays|Math|Integer|System|Long)\\.\\w+)", code)) {
            rule(4, List.of("Arrays.fill", "Math.max", "Math.min", "Math.abs", "Integer.bitCount", "System.arraycopy").contains(call), call);
        }
        rule(4, !code.contains("package "), "a package line");
        rule(3, !found("(boolean|double|float)\\[\\]", code).iterator().hasNext(), "rows of other things than whole numbers");
    }

    private static void nothingIsMadeInCalls(String code) {
        for (String line : code.split("\n")) {
            boolean makes = line.matches(".*\\bnew\\b.*");
            boolean inField = line.matches(" +private (static )?final [\\w\\[\\]]+ \\w+ = new .*;");
            boolean inConstructor = line.matches(" {8}\\w+ = new .*;") || line.matches(" +panels\\[depth\\] = new Panel\\(\\);");
            rule(12, !makes || inField || inConstructor, "made in a call: " + line.trim());
        }
    }

    private static void methodsAreShort(String code) {
        int begun = -1;
        String[] lines = code.split("\n");
        for (int i = 0; i < lines.length; i++) {
            if (lines[i].matches(" {4,8}[\\w ]*[\\w\\[\\]]+ ?\\w*\\(.*\\) \\{")) {
                begun = i;
                rule(11, lines[i].split(",").length <= 7, "too many parameters: " + lines[i].trim());
            }
            if (lines[i].matches(" {4}(    )?\\}") && begun >= 0) {
                rule(11, i - begun <= 60, "a long method: " + lines[begun].trim());
            }
        }
    }

    private static void classesAreFew(String code) {
        List<String> classes = found("^ *(?:public |private |static |final )*class (\\w+)", code);
        rule(11, classes.size() <= 12, "too many classes: " + classes);
        for (String part : code.split("\\bclass \\w+ \\{")) {
            List<String> fields = found("^ +private (?!static)(?:final )?[\\w\\[\\]]+ (\\w+)(?: =.*)?;", part);
            rule(11, fields.size() <= 20, "too many fields: " + fields);
        }
    }

    /** The lines of each method, those of one name together. */
    private static Map<String, String> bodies(String code) {
        Map<String, String> all = new TreeMap<>();
        Pattern method = Pattern.compile("^( {4,8})(?:public |private |static |final )*[\\w\\[\\]]+ (\\w+)\\(.*\\) \\{");
        String name = "", indent = "";
        for (String line : code.split("\n")) {
            Matcher m = method.matcher(line);
            if (name.isEmpty() && m.find()) {
                indent = m.group(1);
                name = m.group(2);
            } else if (line.equals(indent + "}")) {
                name = "";
            } else if (!name.isEmpty()) {
                all.merge(name, line, (former, more) -> former + "\n" + more);
            }
        }
        return all;
    }

    /** How many calls stand open at most; one that is open already is recursion, and counts once. */
    private static int deepest(Map<String, String> bodies, String name, Set<String> open) {
        int most = 0;
        open.add(name);
        for (String called : new TreeSet<>(found("\\b(\\w+)\\(", bodies.getOrDefault(name, "")))) {
            if (bodies.containsKey(called) && !open.contains(called)) {
                most = Math.max(most, deepest(bodies, called, open));
            }
        }
        open.remove(name);
        return most + 1;
    }

    private static void callsAreShallow(String code) {
        Map<String, String> bodies = bodies(code);
        for (String name : FACE) {
            rule(11, bodies.containsKey(name), "no method " + name + " is seen");
            rule(11, deepest(bodies, name, new TreeSet<>()) <= 8, name + " goes too deep");
        }
    }

    public static void main(String[] args) throws Exception {
        String source = Files.readString(Path.of("src/main/java/SeamPull.java"));
        for (int i = 0; i < source.length(); i++) {
            rule(4, source.charAt(i) == '\n' || (source.charAt(i) >= 32 && source.charAt(i) < 127), "a sign at " + i);
        }
        String code = bare(source);
        faceIsKept(code);
        wordsAreKept(code);
        nothingIsMadeInCalls(code);
        methodsAreShort(code);
        classesAreFew(code);
        callsAreShallow(code);
        System.out.println("LanguageTest: " + wrong + " rules not kept");
        if (wrong != 0) {
            System.exit(1);
        }
    }
}
