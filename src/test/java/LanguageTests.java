import java.io.IOException;
import java.lang.reflect.Field;
import java.lang.reflect.Method;
import java.lang.reflect.Modifier;
import java.nio.file.Files;
import java.nio.file.Path;
import java.util.ArrayList;
import java.util.Arrays;
import java.util.List;
import java.util.TreeSet;

/** What of ../shared/LANGUAGE.md can be seen from outside: run it where src/ lies. */
public final class LanguageTests {
    private static final Due due = new Due();
    private static final String[] FACE = {
        "after(int)int", "ahead(int,int)int", "at(int,int)int", "bells(int)int", "book(int,int)int",
        "call(int,int)int", "calls(int,int)int", "change(int)int", "count(int)int", "event(int,int)int",
        "feed(int)int", "fits(int)int", "good(int)int", "image()int", "item(int,int,long)int",
        "judge(int,int,int)int", "leads(int)int", "least(int,int)int", "looked()int", "mean(int)long",
        "music(int)int", "odds(int,int,int)long", "of(int,int)int", "pattern(int,int)int",
        "peek(int,int)long", "read()int", "same(int)int", "see(int,int,int)int",
        "shift(int,int,int,int,int)int", "still(int)int", "tape(int,int,int)int", "told(int)int",
        "undo()int", "where(int,int)int"};

    public static void main(String[] args) throws IOException {
        face();
        for (Class<?> part : parts()) {
            members(part);
        }
        due.holds("11: some twelve classes", parts().size() <= 12);
        words();
        lengths();
        due.end("LanguageTests");
    }

    private static List<Class<?>> parts() {
        List<Class<?>> parts = new ArrayList<>(Arrays.asList(BellTouches.class.getDeclaredClasses()));
        parts.add(BellTouches.class);
        return parts;
    }

    private static String told(Method method) {
        StringBuilder told = new StringBuilder(method.getName()).append('(');
        for (Class<?> sort : method.getParameterTypes()) {
            told.append(told.charAt(told.length() - 1) == '(' ? "" : ",").append(sort.getName());
        }
        return told.append(')').append(method.getReturnType().getName()).toString();
    }

    private static void face() {
        TreeSet<String> methods = new TreeSet<>();
        for (Method method : BellTouches.class.getDeclaredMethods()) {
            if (!Modifier.isPrivate(method.getModifiers())) {
                due.holds("1: public " + method, Modifier.isPublic(method.getModifiers()));
                methods.add(told(method));
            }
        }
        due.holds("1: the face's methods, and no other", methods.equals(new TreeSet<>(Arrays.asList(FACE))));
        TreeSet<String> fields = new TreeSet<>();
        for (Field field : BellTouches.class.getDeclaredFields()) {
            if (!Modifier.isPrivate(field.getModifiers())) {
                fields.add(Modifier.toString(field.getModifiers()) + " " + field.getType() + " " + field.getName());
            }
        }
        String constant = "public static final ";
        due.holds("1: the face's constants, and no other", fields.equals(new TreeSet<>(Arrays.asList(
                constant + "int NONE", constant + "int BAD", constant + "int STATE", constant + "int FULL",
                constant + "long NO"))));
        due.holds("1: one constructor", BellTouches.class.getDeclaredConstructors().length == 1);
        due.holds("1: it is public", BellTouches.class.getConstructors().length == 1);
        due.holds("1: a public final class", BellTouches.class.getModifiers() == (Modifier.PUBLIC | Modifier.FINAL));
    }

    private static void members(Class<?> part) {
        due.holds("2: static " + part, part == BellTouches.class || Modifier.isStatic(part.getModifiers()));
        due.holds("1: no part is public: " + part, part == BellTouches.class || !Modifier.isPublic(part.getModifiers()));
        due.holds("2: no class inside " + part, part == BellTouches.class || part.getDeclaredClasses().length == 0);
        int fields = 0;
        for (Field field : part.getDeclaredFields()) {
            boolean isStatic = Modifier.isStatic(field.getModifiers());
            fields += isStatic ? 0 : 1;
            due.holds("5: final " + field, !isStatic || Modifier.isFinal(field.getModifiers()));
            due.holds("5: a constant " + field, !isStatic || field.getType().isPrimitive());
        }
        due.holds("11: some twenty fields in " + part, fields <= 20);
        TreeSet<String> names = new TreeSet<>();
        for (String method : FACE) {
            names.add(method.substring(0, method.indexOf('(')));
        }
        for (Method method : part.getDeclaredMethods()) {
            due.holds("11: at most seven parameters: " + method, method.getParameterCount() <= 7);
            boolean isFace = part == BellTouches.class && Modifier.isPublic(method.getModifiers());
            due.holds("1: no other method has a public one's name: " + method,
                    isFace || !names.contains(method.getName()));
        }
    }

    private static void words() throws IOException {
        String source = Files.readString(Path.of("src/main/java/BellTouches.java"));
        String code = source.replaceAll("(?s)/\\*.*?\\*/", "").replaceAll("//.*", "");
        String[] refused = {"throw", "throws", "try", "catch", "synchronized", "assert", "import", "package",
            "volatile", "instanceof", "equals", "hashCode", "toString", "protected", "double", "float", "var", "record"};
        for (String word : refused) {
            due.holds("no word " + word, !code.matches("(?s).*\\b" + word + "\\b.*"));
        }
        due.holds("2: no lambda, no method reference", !code.contains("->") && !code.contains("::"));
        due.holds("4: signs 1 to 127", source.chars().allMatch(sign -> sign >= 1 && sign <= 127));
        due.holds("10: no text is joined, there is none", !code.contains("\""));
    }

    /** By the indents, which are the same all over the file. */
    private static void lengths() throws IOException {
        List<String> lines = Files.readAllLines(Path.of("src/main/java/BellTouches.java"));
        int methods = 0;
        for (int i = 0; i < lines.size(); i++) {
            String line = lines.get(i);
            String indent = line.substring(0, line.length() - line.stripLeading().length());
            boolean begins = (indent.length() == 4 || indent.length() == 8) && line.contains("(")
                    && line.endsWith("{") && !line.contains(" class ");
            if (begins) {
                int end = i;
                while (!lines.get(end).equals(indent + "}") && end + 1 < lines.size()) {
                    end++;
                }
                due.holds("11: some sixty lines: " + line.strip(), end - i < 60);
                methods++;
            }
        }
        due.holds("11: methods are found", methods > 80);
    }
}
