import java.io.IOException;
import java.nio.file.Files;
import java.nio.file.Path;
import java.util.ArrayList;
import java.util.List;
import java.util.regex.Matcher;
import java.util.regex.Pattern;

/**
 * "The public face": each constant, constructor and method as it stands in ../shared/DOC.md, in that order and
 * with those names of its numbers, and no other member that can be seen from outside; and what the interface
 * says ahead of the calls. Run it where src/ lies.
 */
public final class FaceTests {
    private static final Due due = new Due();
    private static final String MEMBER = "    public ";
    private static final String SAYS = "    // ---- ";

    public static void main(String[] args) throws IOException {
        String document = Files.readString(Path.of("../shared/DOC.md"));
        List<String> source = Files.readAllLines(Path.of("src/main/java/BellTouches.java"));
        List<String> face = face(document);
        List<String> members = members(source);
        due.is(0, "members that can be seen", members.size(), face.size());
        for (int i = 0; i < Math.min(face.size(), members.size()); i++) {
            due.text(0, "member " + i, members.get(i), face.get(i));
        }
        due.is(0, "calls", face.stream().filter(line -> line.contains(" int ") || line.contains(" long ")).count(), 36);
        due.holds("the class's own line", source.contains("public final class BellTouches {"));
        due.holds("it stands in no package", source.stream().noneMatch(line -> line.startsWith("package")));
        said(document, source);
        promised(document, face);
        due.end("FaceTests");
    }

    /** The lines of the document's class, without its first and its last one. */
    private static List<String> face(String document) {
        Matcher block = Pattern.compile("(?s)## The public face\\s+```java\n(.*?)```").matcher(document);
        due.holds("the document shows a face", block.find());
        List<String> lines = new ArrayList<>();
        for (String line : block.group(1).split("\n")) {
            if (line.startsWith(MEMBER)) {
                lines.add(line.strip());
            }
        }
        return lines;
    }

    /** Of the outer class all that isn't private: a class inside it is no member of the face. */
    private static List<String> members(List<String> source) {
        List<String> members = new ArrayList<>();
        for (String line : source) {
            boolean isOuter = line.matches(" {4}[A-Za-z].*") && !line.contains(" class ");
            if (isOuter && !line.startsWith("    private ")) {
                members.add(line.strip().replaceAll(" \\{$", ";"));
            }
        }
        return members;
    }

    /** "Ahead of the calls .. the interface says: ---- ..": so it does, and of no other call. */
    private static void said(String document, List<String> source) {
        Matcher says = Pattern.compile("Ahead of the calls (.*) the interface says: ---- (.*)\\.\n").matcher(document);
        int groups = 0;
        while (says.find()) {
            groups++;
            List<String> calls = new ArrayList<>();
            int line = source.indexOf(SAYS + says.group(2));
            due.holds("it says ---- " + says.group(2), line >= 0);
            for (line++; line < source.size() && !source.get(line).startsWith(SAYS); line++) {
                Matcher call = Pattern.compile(MEMBER + "(?:int|long) (\\w+)\\(.*").matcher(source.get(line));
                if (call.matches()) {
                    calls.add("`" + call.group(1) + "`");
                }
            }
            due.text(0, "calls behind ---- " + says.group(2), String.join(", ", calls), says.group(1));
        }
        due.is(0, "groups of calls", groups, 6);
    }

    /** Each promise begins with a member of the face; each member of the face has its promise. */
    private static void promised(String document, List<String> face) {
        Matcher promise = Pattern.compile("## Promise (\\d+): .*\n\n`([^`]*)`").matcher(document);
        int promises = 0;
        while (promise.find()) {
            promises++;
            due.is(promises, "the number of the promise", Integer.parseInt(promise.group(1)), promises);
            due.text(promises, "what it promises", "public " + promise.group(2) + ";", face.get(promises + 1));
        }
        due.is(0, "promises", promises, 35);
        due.is(0, "members of the face without a promise: two lines of constants", face.size() - promises, 2);
    }
}
