import java.io.IOException;
import java.lang.reflect.Field;
import java.lang.reflect.Method;
import java.lang.reflect.Modifier;
import java.nio.file.Files;
import java.nio.file.Path;
import java.util.Arrays;
import java.util.HashSet;
import java.util.List;
import java.util.Set;
import java.util.TreeSet;
import java.util.regex.Matcher;
import java.util.regex.Pattern;
import java.util.stream.Collectors;

/** The rules of LANGUAGE.md that can be seen from the source and from the compiled class. */
public final class LanguageTest {
    private static final Checks CHECKS = new Checks();
    private static final List<String> FACE = List.of(
        "int letter(int)", "int works()", "int worker(int,int)", "int from(int,int)", "int frees(int,int)",
        "int gives(int,int,int)", "int rests(int,int)", "int turn(int,int,int)", "int days(int)",
        "int workerThen(int,int,int)", "int then(int,int)", "int falls(int)", "int still()", "int strike(int)",
        "int meet(int,int)", "int never(int)", "int rest(int)", "int gift(int,int,int)", "int trade(int,int,int)",
        "int better(int,int,int)", "int fewest(int)", "int send(int)", "int holiday(int,int)", "int two(int,int,int)",
        "long fever(int,int,int,int,int)", "long mean(int)", "int whatIs(int,int)", "int row(int)", "int judge()",
        "int clear()", "int lots(int,int,int)", "int image()", "int on()", "int count(int)");
    private static final List<String> LIBRARY = List.of(
        "Integer.bitCount", "Integer.numberOfTrailingZeros", "Integer.numberOfLeadingZeros", "Math.max", "Math.min",
        "System.arraycopy");

    private LanguageTest() {
    }

    public static void main(String[] args) throws IOException {
        String source = Files.readString(Path.of("src/main/java/PaidInDays.java"));
        String code = withoutCommentsAndTexts(source);
        faceIsTheDocuments();
        classesInsideAreStatic();
        noForbiddenWord(code);
        onlyListedLibrary(code);
        methodsAreShort(code);
        CHECKS.holds("signs are 1 to 127", source.chars().allMatch(sign -> sign >= 1 && sign <= 127));
        CHECKS.end();
    }

    private static String withoutCommentsAndTexts(String source) {
        return source.replaceAll("(?s)/\\*.*?\\*/", "").replaceAll("//[^\n]*", "").replaceAll("\"[^\"\n]*\"", "\"\"");
    }

    private static String signature(Method method) {
        String types = Arrays.stream(method.getParameterTypes()).map(Class::getName).collect(Collectors.joining(","));
        return method.getReturnType().getName() + " " + method.getName() + "(" + types + ")";
    }

    private static void faceIsTheDocuments() {
        Set<String> open = new TreeSet<>();
        Set<String> names = new HashSet<>();
        for (Method method : PaidInDays.class.getDeclaredMethods()) {
            if (!Modifier.isPrivate(method.getModifiers())) {
                open.add(signature(method));
                names.add(method.getName());
            }
        }
        CHECKS.holds("the face is the document's: " + open, open.equals(new TreeSet<>(FACE)));
        for (Method method : PaidInDays.class.getDeclaredMethods()) {
            boolean hidden = Modifier.isPrivate(method.getModifiers());
            CHECKS.holds("no private name of the face: " + method.getName(), !hidden || !names.contains(method.getName()));
        }
        CHECKS.due("constructors", PaidInDays.class.getDeclaredConstructors().length, 1);
        CHECKS.holds("the class is final", Modifier.isFinal(PaidInDays.class.getModifiers()));
        for (Field field : PaidInDays.class.getDeclaredFields()) {
            CHECKS.holds("private: " + field.getName(), Modifier.isPrivate(field.getModifiers()));
        }
        for (Class<?> inside : PaidInDays.class.getDeclaredClasses()) {
            for (Method method : inside.getDeclaredMethods()) {
                CHECKS.holds("no name of the face: " + method.getName(), !names.contains(method.getName()));
            }
        }
    }

    private static void classesInsideAreStatic() {
        Class<?>[] inside = PaidInDays.class.getDeclaredClasses();
        CHECKS.holds("some twelve classes", inside.length < 12);
        for (Class<?> each : inside) {
            CHECKS.holds("static: " + each.getName(), Modifier.isStatic(each.getModifiers()));
            CHECKS.holds("no class deeper inside: " + each.getName(), each.getDeclaredClasses().length == 0);
            staticFieldsAreFinal(each);
        }
        staticFieldsAreFinal(PaidInDays.class);
    }

    private static void staticFieldsAreFinal(Class<?> each) {
        int own = 0;
        for (Field field : each.getDeclaredFields()) {
            boolean isStatic = Modifier.isStatic(field.getModifiers());
            own += isStatic ? 0 : 1;
            CHECKS.holds("final: " + field.getName(), !isStatic || Modifier.isFinal(field.getModifiers()));
        }
        CHECKS.holds("some twenty fields: " + each.getName(), own <= 20);
        for (Method method : each.getDeclaredMethods()) {
            CHECKS.holds("seven parameters: " + method.getName(), method.getParameterCount() <= 7);
        }
    }

    private static void noForbiddenWord(String code) {
        String[] words = {
            "throw", "throws", "try", "catch", "finally", "synchronized", "assert", "import", "package", "native", "volatile",
            "transient", "protected", "var", "yield", "Object", "Exception", "Thread", "Random", "hashCode", "getClass"
        };
        for (String word : words) {
            CHECKS.holds("no word " + word, !Pattern.compile("\\b" + word + "\\b").matcher(code).find());
        }
        for (String signs : List.of("->", "::", "@", "[][]", "\" +", "+ \"")) {
            CHECKS.holds("no signs " + signs, !code.contains(signs));
        }
    }

    private static void onlyListedLibrary(String code) {
        Matcher matcher = Pattern.compile("\\b(Integer|Long|Math|System|Arrays|Character|String)\\.\\w+").matcher(code);
        while (matcher.find()) {
            CHECKS.holds("of the library: " + matcher.group(), LIBRARY.contains(matcher.group()));
        }
    }

    private static void methodsAreShort(String code) {
        Matcher matcher = Pattern.compile("(?m)^( {4}| {8})\\S[^\n;=]*\\) \\{\n(.*\n)*?\\1\\}$").matcher(code);
        int found = 0;
        while (matcher.find()) {
            found++;
            long lines = matcher.group().chars().filter(sign -> sign == '\n').count();
            CHECKS.holds("some sixty lines: " + matcher.group().lines().findFirst().orElse(""), lines <= 60);
        }
        CHECKS.holds("methods were found", found > 35);
    }
}
