import java.io.IOException;
import java.lang.reflect.Method;
import java.lang.reflect.Modifier;
import java.nio.file.DirectoryStream;
import java.nio.file.Files;
import java.nio.file.Path;
import java.util.List;
import java.util.regex.Matcher;
import java.util.regex.Pattern;

/** README.md tells the truth: its examples, done as one run on one object, answer as they say; no call is left out. */
final class ReadmeTest {
    private static final Pattern CALL =
        Pattern.compile("road\\.(\\w+)\\(([^)]*)\\); +// (-?\\d+|BAD|NO|FULL|NONE)(?:[:,].*)?");
    private static final Pattern TEXT = Pattern.compile("String text = \"([^\"]*)\";");

    private static int examples = 0;

    private ReadmeTest() {
    }

    public static void main(String[] args) throws Exception {
        List<String> lines = Files.readAllLines(Path.of("README.md"));
        examplesAnswerSo(lines);
        everyCallIsTold(lines);
        everyTestIsTold(lines);
        numbersBelowZero(lines);
        Check.end("ReadmeTest");
    }

    private static void examplesAnswerSo(List<String> lines) throws ReflectiveOperationException {
        StraightWhenAlone road = new StraightWhenAlone();
        boolean inJava = false;
        for (String line : lines) {
            if (line.startsWith("```")) {
                inJava = line.equals("```java");
            } else if (inJava) {
                doLine(road, line);
            }
        }
        Check.that("examples were found: " + examples, examples >= 40);
    }

    private static void doLine(StraightWhenAlone road, String line) throws ReflectiveOperationException {
        Matcher call = CALL.matcher(line);
        Matcher text = TEXT.matcher(line);
        if (text.matches()) {
            Check.writeAll(road, text.group(1));
        } else if (call.matches()) {
            examples++;
            Check.due("README's " + line, answer(road, call.group(1), call.group(2)), numberOf(call.group(3)));
        } else {
            Check.that("README's line can be done: " + line, line.isEmpty() || line.equals("}")
                || line.equals("StraightWhenAlone road = new StraightWhenAlone();")
                || line.equals("for (char letter : text.toCharArray()) {")
                || line.startsWith("    road.write(letter); "));
        }
    }

    private static int answer(StraightWhenAlone road, String name, String told) throws ReflectiveOperationException {
        String[] words = told.isEmpty() ? new String[0] : told.split(", ");
        for (Method method : StraightWhenAlone.class.getDeclaredMethods()) {
            if (Modifier.isPublic(method.getModifiers()) && method.getName().equals(name)
                && method.getParameterCount() == words.length) {
                Object[] numbers = new Object[words.length];
                for (int k = 0; k < words.length; k++) {
                    boolean isTruth = method.getParameterTypes()[k] == boolean.class;
                    numbers[k] = isTruth ? (Object) Boolean.valueOf(words[k]) : (Object) Integer.valueOf(words[k]);
                }
                return (Integer) method.invoke(road, numbers);
            }
        }
        throw new IllegalArgumentException("README tells a call that is none: " + name + "(" + told + ")");
    }

    private static int numberOf(String word) {
        switch (word) {
            case "BAD": return Check.BAD;
            case "NO": return Check.NO;
            case "FULL": return Check.FULL;
            case "NONE": return Check.NONE;
            default: return Integer.parseInt(word);
        }
    }

    private static void everyCallIsTold(List<String> lines) {
        for (Method method : StraightWhenAlone.class.getDeclaredMethods()) {
            if (Modifier.isPublic(method.getModifiers())) {
                int many = 0;
                for (String line : lines) {
                    many += line.startsWith("| `" + method.getName() + "(") ? 1 : 0;
                }
                Check.due("README's rows of " + method.getName(), many, 1);
            }
        }
    }

    private static void everyTestIsTold(List<String> lines) throws IOException {
        try (DirectoryStream<Path> files = Files.newDirectoryStream(Path.of("src/test/java"), "*Test.java")) {
            for (Path file : files) {
                String name = file.getFileName().toString().replace(".java", "");
                Check.that("README tells of " + name, lines.stream().anyMatch(l -> l.startsWith("| `" + name + "` |")));
            }
        }
    }

    private static void numbersBelowZero(List<String> lines) {
        String[] names = {"BAD", "NO", "FULL", "NONE"};
        int[] numbers = {StraightWhenAlone.BAD, StraightWhenAlone.NO, StraightWhenAlone.FULL, StraightWhenAlone.NONE};
        for (int k = 0; k < names.length; k++) {
            String row = "| `" + names[k] + "` | " + numbers[k] + " |";
            Check.that("README tells " + row, lines.stream().anyMatch(l -> l.startsWith(row)));
        }
    }
}
