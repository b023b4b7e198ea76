import java.io.IOException;
import java.lang.reflect.InvocationTargetException;
import java.lang.reflect.Method;
import java.lang.reflect.Modifier;
import java.nio.file.Files;
import java.nio.file.Path;
import java.util.HashMap;
import java.util.List;
import java.util.Map;
import java.util.stream.Collectors;
import java.util.stream.Stream;

/**
 * Long runs of calls with the answers of another, plainer program in another language, by the same
 * hand (a misreading that both share is not seen here): a line is a call's name, its arguments, and
 * its answer or exception.
 */
public final class RecordedRunsTest {
    private static final Map<String, Method> CALLS = new HashMap<>();

    public static void main(String[] args) throws IOException, IllegalAccessException {
        for (Method method : PictureHouse.class.getDeclaredMethods()) {
            if (Modifier.isPublic(method.getModifiers())) {
                CALLS.put(method.getName(), method);
            }
        }
        List<Path> files;
        try (Stream<Path> found = Files.list(Path.of("src/test/runs"))) {
            files = found.sorted().collect(Collectors.toList());
        }
        Check.due("there are recorded runs", files.size() > 0, true);
        for (Path file : files) {
            replay(file);
        }
        Check.end("RecordedRunsTest");
    }

    private static void replay(Path file) throws IOException, IllegalAccessException {
        PictureHouse house = new PictureHouse();
        int number = 0;
        for (String line : Files.readAllLines(file)) {
            number++;
            if (line.equals("new")) {
                house = new PictureHouse();
                continue;
            }
            String[] words = line.split(" ");
            String got = answer(house, words);
            boolean right = got.equals(words[words.length - 1]);
            if (!right) {
                System.out.println(got);
            }
            Check.due(file + ":" + number + ": " + line, right, true);
        }
    }

    private static String answer(PictureHouse house, String[] words) throws IllegalAccessException {
        Method call = CALLS.get(words[0]);
        Class<?>[] types = call.getParameterTypes();
        Object[] arguments = new Object[types.length];
        for (int i = 0; i < types.length; i++) {
            if (types[i] == long.class) {
                arguments[i] = Long.parseLong(words[i + 1]);
            } else {
                arguments[i] = Integer.parseInt(words[i + 1]);
            }
        }
        try {
            Object answer = call.invoke(house, arguments);
            if (answer == null) {
                return "void";
            }
            return answer instanceof Boolean ? (Boolean) answer ? "1" : "0" : answer.toString();
        } catch (InvocationTargetException e) {
            return e.getCause().getClass().getSimpleName();
        }
    }
}
