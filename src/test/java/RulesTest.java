import java.io.IOException;
import java.lang.reflect.Field;
import java.lang.reflect.Method;
import java.lang.reflect.Modifier;
import java.nio.file.Files;
import java.nio.file.Path;
import java.util.ArrayList;
import java.util.List;
import java.util.Set;
import java.util.regex.Matcher;
import java.util.regex.Pattern;

/**
 * The rules of LANGUAGE.md that can be seen in the text of the class. The class uses less than they
 * leave (no class inside, no try, no text), and this test holds it to that less.
 */
public final class RulesTest {
    private static final Due DUE = new Due();
    private static final Path FILE = Path.of("src/main/java/ReelLoom.java");
    private static final Pattern CONSTRUCTOR =
            Pattern.compile("^    public ReelLoom\\(\\) \\{\n.*?^    \\}\n", Pattern.DOTALL | Pattern.MULTILINE);

    public static void main(String[] args) throws IOException {
        String text = Files.readString(FILE).replaceAll("(?s)/\\*.*?\\*/", "").replaceAll("//[^\n]*", "");
        String code = text.replaceAll("\"[^\"\n]*\"", "\"\"");
        oneClassOfItsOwn(code);
        libraryIsWhatStandsThere(code);
        staticFieldsAreConstants();
        throwsAreWrittenOut(text);
        wordsThatAreNotUsed(code);
        objectsAreMadeInTheConstructorAlone(code);
        methodsAreShort(code);
        DUE.end("RulesTest");
    }

    private static List<String> found(String pattern, String code) {
        List<String> found = new ArrayList<>();
        Matcher matcher = Pattern.compile(pattern, Pattern.MULTILINE).matcher(code);
        while (matcher.find()) {
            found.add(matcher.group(matcher.groupCount()));
        }
        return found;
    }

    private static void within(String rule, Set<String> allowed, List<String> used) {
        for (String word : used) {
            DUE.compare(rule + ": " + word, "true", "" + allowed.contains(word));
        }
    }

    private static void oneClassOfItsOwn(String code) {
        DUE.compare("rule 1: classes", "[ReelLoom]", found("\\b(?:class|interface|enum|record) +(\\w+)", code).toString());
        DUE.compare("rule 1: package lines", "[]", found("^\\s*package\\b", code).toString());
    }

    private static void libraryIsWhatStandsThere(String code) {
        within("rule 4, import", Set.of("java.util.Arrays"), found("^import (.*);", code));
        within("rule 4, call", Set.of("Arrays.fill", "Math.max", "Math.min"), found("\\b([A-Z]\\w*\\.\\w+)\\(", code));
        within("rule 4, other class", Set.of("Arrays", "Math"), found("\\b([A-Z]\\w*)\\.", code));
        within("rule 4, whole name", Set.of("java.util.Arrays"), found("\\b(java[.\\w]+)", code));
    }

    private static void staticFieldsAreConstants() {
        int fields = 0;
        for (Field field : ReelLoom.class.getDeclaredFields()) {
            if (Modifier.isStatic(field.getModifiers())) {
                DUE.compare("rule 5: " + field, "private static final int",
                        Modifier.toString(field.getModifiers()) + " " + field.getType());
            } else {
                fields++;
            }
        }
        DUE.compare("rule 11: at most 20 fields", "true", "" + (fields <= 20));
    }

    private static void throwsAreWrittenOut(String text) {
        int all = found("\\bthrow\\b", text).size();
        List<String> written = found("\\bthrow new (\\w+)\\((?:\"[^\"\n]*\")?\\);", text);
        DUE.compare("rule 6: throws that are written out", "" + all, "" + written.size());
        within("rule 6", Set.of("IllegalStateException", "IllegalArgumentException", "IndexOutOfBoundsException",
                "UnsupportedOperationException"), written);
        Matcher constructor = CONSTRUCTOR.matcher(text);
        DUE.compare("the constructor is found", "true", "" + constructor.find());
        DUE.compare("rule 6: throws in it", "[]", found("\\bthrow\\b", constructor.group()).toString());
    }

    private static void wordsThatAreNotUsed(String code) {
        DUE.compare("rule 2: lambdas and method references", "[]", found("->|::", code).toString());
        DUE.compare("rule 6: words", "[]",
                found("\\b(try|catch|finally|synchronized|assert|volatile|native)\\b", code).toString());
        DUE.compare("rule 3: other types", "[]", found("\\b(double|float|var|Object)\\b", code).toString());
        DUE.compare("rule 3: arrays of two dimensions", "[]", found("\\[\\s*\\]\\s*\\[", code).toString());
        DUE.compare("rule 7: divisions", "[]", found("[/%]", code).toString());
        DUE.compare("rule 9: loops without an end of their own", "[]",
                found("while \\(true\\)|for \\(;|\\bdo\\b", code).toString());
    }

    private static void objectsAreMadeInTheConstructorAlone(String code) {
        String rest = CONSTRUCTOR.matcher(code).replaceAll("");
        DUE.compare("rule 12: what other methods make", "[]", found("(?<!throw )\\bnew\\b[^;]*", rest).toString());
    }

    private static void methodsAreShort(String code) {
        for (Method method : ReelLoom.class.getDeclaredMethods()) {
            DUE.compare("rule 11, parameters: " + method, "true", "" + (method.getParameterCount() <= 7));
        }
        Matcher body = Pattern.compile("^    (?:public|private)[^;=]*?\\{\n(.*?)^    \\}\n",
                Pattern.DOTALL | Pattern.MULTILINE).matcher(code);
        int bodies = 0;
        while (body.find()) {
            bodies++;
            DUE.compare("rule 11, lines: " + body.group().lines().findFirst().get().trim(), "true",
                    "" + (body.group().lines().count() <= 60));
        }
        int due = ReelLoom.class.getDeclaredMethods().length + ReelLoom.class.getDeclaredConstructors().length;
        DUE.compare("rule 11: methods that were looked at", "" + due, "" + bodies);
    }

    private RulesTest() {
    }
}
