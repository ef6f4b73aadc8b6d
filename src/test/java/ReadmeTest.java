import java.io.IOException;
import java.lang.reflect.Method;
import java.lang.reflect.Modifier;
import java.nio.file.Files;
import java.nio.file.Path;
import java.util.ArrayList;
import java.util.List;
import java.util.regex.Matcher;
import java.util.regex.Pattern;

/** What README.md tells: the answers of its example, the lines and faults of a text, each call of the face. */
public final class ReadmeTest {
    private static final Due due = new Due();
    private static final Pattern ANSWER = Pattern.compile("^city\\.(\\w+)\\(([^)]*)\\); +// (-?\\d+)\\b");

    public static void main(String[] args) throws IOException, ReflectiveOperationException {
        List<String> readme = Files.readAllLines(Path.of("README.md"));
        example(readme);
        lines(readme);
        faults(readme);
        calls(readme);
        tests(readme);
        due.close("ReadmeTest");
    }

    private static void example(List<String> readme) throws ReflectiveOperationException {
        NoonCity city = new NoonCity();
        int asked = 0;
        for (String line : readme) {
            Matcher text = Pattern.compile("\"(.*)\"\\.toCharArray").matcher(line);
            if (text.find()) {
                Towns.feed(city, text.group(1));
            }
            Matcher call = ANSWER.matcher(line);
            if (call.find()) {
                long got = answer(city, call.group(1), call.group(2).isEmpty() ? new String[0] : call.group(2).split(", "));
                due.is("the example: " + line, got, Long.parseLong(call.group(3)));
                asked++;
            } else {
                due.holds("a call tells its answer: " + line, !line.startsWith("city."));
            }
        }
        due.holds("the example asks: " + asked, asked >= 20);
    }

    private static long answer(NoonCity city, String name, String[] numbers) throws ReflectiveOperationException {
        for (Method m : NoonCity.class.getMethods()) {
            if (m.getName().equals(name) && m.getParameterCount() == numbers.length) {
                Object[] all = new Object[numbers.length];
                for (int i = 0; i < numbers.length; i++) {
                    boolean is = m.getParameterTypes()[i] == boolean.class;
                    all[i] = is ? (Object) Boolean.valueOf(numbers[i]) : (Object) Integer.valueOf(numbers[i]);
                }
                return ((Number) m.invoke(city, all)).longValue();
            }
        }
        throw new IllegalArgumentException("no call " + name + " of " + numbers.length + " numbers");
    }

    /** Each line of a text as the table has it, with small numbers in the place of its letters. */
    private static void lines(List<String> readme) {
        List<String> words = new ArrayList<>();
        for (String row : readme) {
            Matcher line = Pattern.compile("^\\| `([a-z]+ [^`]*;)` \\|").matcher(row);
            if (line.find()) {
                String text = line.group(1).replaceAll("\\b[A-Z]\\b|\\b[lr]\\b", "2");
                NoonCity x = new NoonCity();
                due.is("a line of the table: " + text, Towns.tell(x, text), 1);
                words.add(text.substring(0, text.indexOf(' ')));
            }
        }
        due.holds("all lines are told: " + words,
            words.equals(List.of("city", "left", "right", "sign", "hour", "walker", "keeper", "gloves")));
    }

    private static void faults(List<String> readme) {
        for (int fault = 1; fault <= 6; fault++) {
            String begins = "| " + fault + " |";
            due.is("FAULT " + fault + " is told", readme.stream().filter(row -> row.startsWith(begins)).count(), 1);
        }
    }

    private static void calls(List<String> readme) {
        StringBuilder told = new StringBuilder();
        for (String row : readme) {
            if (row.startsWith("| `") && row.contains(")` |")) {
                told.append(row, 0, row.indexOf(")` |") + 2);
            }
        }
        for (Method m : NoonCity.class.getDeclaredMethods()) {
            if (Modifier.isPublic(m.getModifiers())) {
                String numbers = m.getParameterCount() == 0 ? "" : "\\w+(, \\w+){" + (m.getParameterCount() - 1) + "}";
                due.holds("the call is told: " + m.getName(),
                    Pattern.compile("`" + m.getName() + "\\(" + numbers + "\\)`").matcher(told).find());
            }
        }
    }

    private static void tests(List<String> readme) throws IOException {
        String all = String.join("\n", readme);
        try (var files = Files.list(Path.of("src/test/java"))) {
            for (Path file : files.filter(f -> f.toString().endsWith("Test.java")).toList()) {
                String name = file.getFileName().toString().replace(".java", "");
                due.holds("the test is told: " + name, all.contains(name));
            }
        }
        due.holds("how to run them is told", all.contains("bash .ci/run"));
        due.holds("for how many calls an object is good is told", all.contains("For 512 calls"));
    }
}
