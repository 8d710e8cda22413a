import java.io.IOException;
import java.lang.reflect.Constructor;
import java.lang.reflect.Field;
import java.lang.reflect.Method;
import java.lang.reflect.Modifier;
import java.nio.file.Files;
import java.nio.file.Path;
import java.util.Set;
import java.util.TreeSet;
import java.util.regex.Matcher;
import java.util.regex.Pattern;

/** The public face of the document, and what of LANGUAGE.md can be seen in the class and its text. */
public final class FaceTest {
    private static final Due due = new Due();
    private static final String[] METHODS = {
        "int reset(int)", "int addSpan(int)", "int setDancer(int,int,int,int,int,int)",
        "int setLoadCell(int,int,int)", "int setWeb(int,int)", "int setStrength(int,int)",
        "int setDraw(int,int)", "int setSpeed(int,int)", "int setSplicing(int,int)",
        "int loadRoll(int)", "int setRollLength(int)", "int run(int)", "int thread()",
        "int value(int)", "int breakAt()", "long measure(int,int)", "long roller(int,int)",
        "long web(int)", "long markDistance(int)", "int slackSpans()", "int event(int,int)",
        "int steadyTension(int)", "int bestDraw(int,int)", "long forecast(int,int)",
        "int outlook(int)"};
    private static final String[] FORBIDDEN = {
        "throw", "throws", "try", "catch", "finally", "synchronized", "assert", "import", "package",
        "->", "::", "protected", "Exact", "equals", "hashCode", "toString", "Thread", "System.out",
        "while (true)", "for (;;)", "instanceof", "float", "double", "\"", "'"};
    private static final Set<String> LIBRARY = Set.of("Math.max", "Math.min", "Math.abs",
            "Math.floorDiv", "Math.floorMod", "System.arraycopy", "Long.MIN_VALUE");

    public static void main(String[] args) throws IOException {
        constants();
        onlyTheFaceIsPublic();
        innerClasses();
        members();
        text();
        library();
        due.end();
    }

    private static void constants() {
        due.topic("constants");
        due.is("NO_SUCH_PLACE", -1000001, WebTensionLine.NO_SUCH_PLACE);
        due.is("BAD_VALUE", -1000002, WebTensionLine.BAD_VALUE);
        due.is("NOT_NOW", -1000003, WebTensionLine.NOT_NOW);
        due.is("FULL", -1000004, WebTensionLine.FULL);
        due.is("NONE", -1000005, WebTensionLine.NONE);
        due.is("NO_VALUE", Long.MIN_VALUE, WebTensionLine.NO_VALUE);
    }

    private static void onlyTheFaceIsPublic() {
        due.topic("face");
        Class<?> face = WebTensionLine.class;
        due.holds("public final", Modifier.isPublic(face.getModifiers())
                && Modifier.isFinal(face.getModifiers()));
        Set<String> seen = new TreeSet<>();
        for (Method method : face.getDeclaredMethods()) {
            if (!Modifier.isPrivate(method.getModifiers()) && !method.isSynthetic()) {
                seen.add(signature(method));
                due.holds(method + " is public and no static one",
                        method.getModifiers() == Modifier.PUBLIC);
            }
        }
        due.holds("methods " + seen, seen.equals(Set.of(METHODS)));
        Set<String> names = new TreeSet<>();
        for (Field field : face.getDeclaredFields()) {
            if (!Modifier.isPrivate(field.getModifiers())) {
                names.add(field.getType() + " " + field.getName());
                due.holds(field + " is a constant", field.getModifiers()
                        == (Modifier.PUBLIC | Modifier.STATIC | Modifier.FINAL));
            }
        }
        due.holds("constants " + names, names.equals(Set.of("int NO_SUCH_PLACE", "int BAD_VALUE",
                "int NOT_NOW", "int FULL", "int NONE", "long NO_VALUE")));
        Constructor<?>[] makers = face.getDeclaredConstructors();
        due.holds("one constructor, without parameters", makers.length == 1
                && makers[0].getParameterCount() == 0
                && Modifier.isPublic(makers[0].getModifiers()));
    }

    private static String signature(Method method) {
        StringBuilder text = new StringBuilder();
        text.append(method.getReturnType()).append(' ').append(method.getName()).append('(');
        for (Class<?> type : method.getParameterTypes()) {
            text.append(text.charAt(text.length() - 1) == '(' ? "" : ",").append(type);
        }
        return text.append(')').toString();
    }

    private static void innerClasses() {
        due.topic("classes inside");
        Set<String> faceNames = new TreeSet<>();
        for (String method : METHODS) {
            faceNames.add(method.replaceAll("^\\w+ |\\(.*", ""));
        }
        Class<?>[] inside = WebTensionLine.class.getDeclaredClasses();
        due.holds("at most twelve classes", inside.length < 12);
        for (Class<?> one : inside) {
            due.holds(one + " is static and not public", Modifier.isStatic(one.getModifiers())
                    && !Modifier.isPublic(one.getModifiers()));
            int fields = 0;
            for (Field field : one.getDeclaredFields()) {
                fields += Modifier.isStatic(field.getModifiers()) ? 0 : 1;
            }
            due.holds(one + " has at most twenty fields", fields <= 20);
            for (Method method : one.getDeclaredMethods()) {
                due.holds(method + " has a name of its own", !faceNames.contains(method.getName()));
            }
        }
    }

    private static void members() {
        due.topic("members");
        for (Field field : WebTensionLine.class.getDeclaredFields()) {
            boolean isNumber = field.getType() == int.class || field.getType() == long.class;
            due.holds(field + " is final", Modifier.isFinal(field.getModifiers()));
            due.holds(field + " is a number if it is static",
                    !Modifier.isStatic(field.getModifiers()) || isNumber);
        }
        for (Method method : WebTensionLine.class.getDeclaredMethods()) {
            due.holds(method + " has at most seven parameters", method.getParameterCount() <= 7);
        }
        for (Class<?> one : WebTensionLine.class.getDeclaredClasses()) {
            for (Method method : one.getDeclaredMethods()) {
                due.holds(method + " has at most seven parameters",
                        method.getParameterCount() <= 7);
            }
            for (Field field : one.getDeclaredFields()) {
                due.holds(field + " is not static", !Modifier.isStatic(field.getModifiers()));
            }
        }
    }

    /** The text of the program without its comments. */
    private static String code() throws IOException {
        String text = Files.readString(Path.of("src/main/java/WebTensionLine.java"));
        return text.replaceAll("(?s)/\\*.*?\\*/", "").replaceAll("//[^\n]*", "");
    }

    private static void library() throws IOException {
        due.topic("library");
        Matcher found = Pattern.compile("\\b[A-Z]\\w*[a-z]\\w*\\.\\w+").matcher(code());
        Set<String> used = new TreeSet<>();
        while (found.find()) {
            used.add(found.group());
        }
        due.holds("only what the rules list: " + used, LIBRARY.containsAll(used));
        due.holds("some of it is used", used.contains("Math.floorDiv"));
    }

    private static void text() throws IOException {
        due.topic("text");
        String code = code();
        due.holds("signs from 1 to 127 alone", code.chars().allMatch(sign -> sign < 128));
        for (String word : FORBIDDEN) {
            String pattern = Pattern.quote(word);
            if (Character.isLetter(word.charAt(word.length() - 1))) {
                pattern = pattern + "\\b";
            }
            if (Character.isLetter(word.charAt(0)) && !word.equals("Exact")) {
                pattern = "\\b" + pattern;
            }
            Matcher found = Pattern.compile(pattern).matcher(code);
            due.holds("no " + word, !found.find());
        }
        int longest = 0;
        int since = 0;
        for (String line : code.split("\n")) {
            since = line.matches(" {4,8}(private|public) .*\\{") ? 0 : since + 1;
            longest = line.matches(" {4,8}\\}") ? Math.max(longest, since) : longest;
        }
        due.holds("no method above sixty lines: " + longest, longest > 0 && longest <= 60);
    }
}
