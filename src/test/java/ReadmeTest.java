import java.io.IOException;
import java.lang.reflect.Method;
import java.nio.file.Files;
import java.nio.file.Path;
import java.util.Arrays;
import java.util.regex.Matcher;
import java.util.regex.Pattern;

/** README.md shows calls with what they answer; they do. */
public final class ReadmeTest {
    private static final Pattern CALL = Pattern.compile("(?m)^city\\.(\\w+)\\(([^)]*)\\); +// (-?\\d+)");

    public static void main(String[] args) throws IOException, ReflectiveOperationException {
        BreadGames city = new BreadGames();
        Matcher m = CALL.matcher(Files.readString(Path.of("README.md")));
        while (m.find()) {
            Object[] v = m.group(2).isEmpty() ? new Object[0]
                    : Arrays.stream(m.group(2).split(", *")).map(Integer::decode).toArray();
            Class<?>[] types = new Class<?>[v.length];
            Arrays.fill(types, int.class);
            Method call = BreadGames.class.getMethod(m.group(1), types);
            Checks.due(m.group(), ((Number) call.invoke(city, v)).longValue(), Long.parseLong(m.group(3)));
        }
        Checks.end("ReadmeTest");
    }
}
