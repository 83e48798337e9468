import java.io.IOException;
import java.lang.reflect.Method;
import java.nio.file.Files;
import java.nio.file.Path;
import java.util.Arrays;
import java.util.Set;
import java.util.TreeSet;
import java.util.regex.Matcher;
import java.util.regex.Pattern;

/**
 * src/test/SENTENCES.md names tests that are there, and names each method of the tests of sections.
 * The work directory must be that of the project.
 */
public final class SentencesTest extends Check {
    private static final Path MAP = Path.of("src", "test", "SENTENCES.md");
    private static final Class<?>[] SECTIONS = {
        SectionMoneyTest.class, SectionMarketsTest.class, SectionCostsTest.class,
        SectionOrdersTest.class, SectionExpiryTest.class, SectionSettlingTest.class,
        SectionHistoryTest.class, SectionTextTest.class, SectionErrorsTest.class,
        SectionParticularsTest.class,
    };

    public static void main(String[] args) throws IOException, ClassNotFoundException {
        Set<String> named = new TreeSet<>();
        Matcher test = Pattern.compile("`(\\w+Test)\\.(\\w+)`").matcher(Files.readString(MAP));
        while (test.find()) {
            named.add(test.group(1) + "." + test.group(2));
            Method[] methods = Class.forName(test.group(1)).getDeclaredMethods();
            boolean there = Arrays.stream(methods).anyMatch(m -> m.getName().equals(test.group(2)));
            isTrue(test.group() + " is there", there);
        }
        for (Class<?> section : SECTIONS) {
            for (Method method : section.getDeclaredMethods()) {
                boolean holds = method.getParameterCount() == 0 && method.getReturnType() == void.class;
                String name = section.getSimpleName() + "." + method.getName();
                isTrue(name + " is named", !holds || method.isSynthetic() || named.contains(name));
            }
        }
        end();
    }
}
