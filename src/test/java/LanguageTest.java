import java.lang.reflect.Field;
import java.lang.reflect.Method;
import java.lang.reflect.Modifier;
import java.nio.charset.StandardCharsets;
import java.nio.file.Files;
import java.nio.file.Path;
import java.util.ArrayList;
import java.util.Arrays;
import java.util.List;
import java.util.regex.Matcher;
import java.util.regex.Pattern;

/** The face of the class, and such rules of ../shared/LANGUAGE.md as can be looked at from outside or in the text. */
public final class LanguageTest {
    private static final Check check = new Check();

    public static void main(String[] args) throws Exception {
        face();
        classes();
        words();
        check.end();
    }

    private static void face() {
        List<String> wanted = List.of("count 1", "hours 1", "room 3", "told 2", "feed 6", "text 0", "force 1", "asks 4",
            "viewer 2", "put 3", "one 2", "tour 4", "shown 3", "best 3", "when 3", "together 2", "without 3", "paint 3",
            "tenant 3", "waits 4 long", "judge 3", "kinds 4", "riches 4", "rooms 4", "laws 3", "film 3", "drawn 3",
            "odds 4 long", "image 0", "back 0", "sheet 3", "cell 3", "copy 5", "viewersBy 4", "taken 2");
        List<String> names = new ArrayList<>();
        for (String call : wanted) names.add(call.substring(0, call.indexOf(' ')));
        List<String> there = new ArrayList<>();
        for (Method m : FlatToLet.class.getDeclaredMethods()) {
            boolean isPublic = Modifier.isPublic(m.getModifiers());
            if (isPublic) {
                there.add(m.getName() + " " + m.getParameterCount() + (m.getReturnType() == long.class ? " long" : ""));
                check.that(m + " takes ints", Arrays.stream(m.getParameterTypes()).allMatch(t -> t == int.class));
                check.that(m + " is no static", !Modifier.isStatic(m.getModifiers()));
            } else {
                check.that(m + " is private", Modifier.isPrivate(m.getModifiers()));
                check.that(m + " bears no public name", !names.contains(m.getName()));
            }
        }
        for (String call : wanted) check.that(call + " is there", there.contains(call));
        check.due("public methods", there.size(), wanted.size());
        for (Field f : FlatToLet.class.getDeclaredFields()) {
            boolean constant = List.of("NONE", "BAD", "STATE", "FULL", "NO").contains(f.getName());
            check.that(f + " is private or of the face", constant == Modifier.isPublic(f.getModifiers())
                && (constant || Modifier.isPrivate(f.getModifiers())));
        }
        check.that("public final", (FlatToLet.class.getModifiers() & (Modifier.PUBLIC | Modifier.FINAL)) == (Modifier.PUBLIC | Modifier.FINAL));
        check.due("constructors", FlatToLet.class.getDeclaredConstructors().length, 1);
    }

    private static void classes() {
        Class<?>[] inside = FlatToLet.class.getDeclaredClasses();
        check.that("some twelve classes", inside.length + 1 <= 12);
        List<Class<?>> all = new ArrayList<>(Arrays.asList(inside));
        all.add(FlatToLet.class);
        for (Class<?> c : all) {
            if (c != FlatToLet.class) {
                check.that(c + " is static", Modifier.isStatic(c.getModifiers()));
                check.that(c + " is not public or protected", (c.getModifiers() & (Modifier.PUBLIC | Modifier.PROTECTED)) == 0);
            }
            check.that(c + " is within one class", c == FlatToLet.class || c.getDeclaringClass() == FlatToLet.class);
            int fields = 0;
            for (Field f : c.getDeclaredFields()) {
                if (!Modifier.isStatic(f.getModifiers())) fields++;
                else check.that(f + " is final", Modifier.isFinal(f.getModifiers()) && (f.getType().isPrimitive() || f.getType() == String.class));
            }
            check.that(c + " has some twenty fields", fields <= 20);
            for (Method m : c.getDeclaredMethods()) {
                check.that(m + " takes seven at most", m.getParameterCount() <= 7);
                check.that(m + " bears no public name", c == FlatToLet.class || !isOfTheFace(m.getName()));
            }
        }
    }

    private static boolean isOfTheFace(String name) {
        return Arrays.stream(FlatToLet.class.getMethods()).anyMatch(m -> m.getDeclaringClass() == FlatToLet.class && m.getName().equals(name));
    }

    private static void words() throws Exception {
        String text = Files.readString(Path.of("src/main/java/FlatToLet.java"), StandardCharsets.US_ASCII);
        String bare = text.replaceAll("(?s)/\\*.*?\\*/", " ").replaceAll("//[^\n]*", " ")
            .replaceAll("\"[^\"\n]*\"", "\"\"").replaceAll("'(\\\\.|[^'\\\\])'", "0");
        for (String word : List.of("throw", "throws", "try", "catch", "finally", "synchronized", "assert", "package",
            "native", "volatile", "transient", "Object", "equals", "hashCode", "Exception", "Error", "Throwable",
            "yield", "var", "record", "float", "double", "Thread", "Random", "System\\.(?!arraycopy)", "Iterator", "goto")) {
            check.that("no " + word, !Pattern.compile("\\b" + word + (word.endsWith(")") ? "" : "\\b")).matcher(bare).find());
        }
        check.that("no lambda", !bare.contains("->"));
        check.that("no method reference", !bare.contains("::"));
        check.that("no annotation", !bare.contains("@"));
        check.that("no text joined by +", !bare.matches("(?s).*\"\"\\s*\\+.*|.*\\+\\s*\"\".*"));
        if (bare.contains("int at(int[] row, int i)")) indexes(bare);
        int method = 0;
        for (String line : bare.split("\n")) {
            boolean starts = line.matches(" {4,8}[a-z].*\\) \\{");
            method = starts ? 0 : method + 1;
            boolean ends = line.matches(" {4,8}\\}");
            if (ends) check.that("a method has some sixty lines at most", method <= 60);
        }
    }

    /** Where there are at() and set(), rows are looked at and changed by them alone, so that every index is behind a test. */
    private static void indexes(String bare) {
        Matcher index = Pattern.compile("\\w\\[[^\\]]").matcher(bare.replaceAll("new int\\[[^\\]]*\\]", ""));
        int indexes = 0;
        while (index.find()) indexes++;
        check.due("indexes: at(), set(), kindAt()", indexes, 3);
    }
}
