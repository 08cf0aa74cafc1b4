import java.io.IOException;
import java.lang.reflect.InvocationTargetException;
import java.lang.reflect.Method;
import java.lang.reflect.Modifier;
import java.nio.file.Files;
import java.nio.file.Path;
import java.util.List;
import java.util.Set;
import java.util.TreeSet;
import java.util.regex.Matcher;
import java.util.regex.Pattern;

/** The calls that README.md shows, in its order, answer as it says; each call of the face is shown. */
public final class ReadmeTest {
    private static final Pattern NEW = Pattern.compile("BlockCells cells = new BlockCells\\(\\);.*");
    private static final Pattern CALL = Pattern.compile("cells\\.(\\w+)\\(([^)]*)\\); +// (-?\\d+): .+");

    public static void main(String[] args) throws IOException, IllegalAccessException, InvocationTargetException {
        List<String> lines = Files.readAllLines(Path.of("README.md"));
        BlockCells cells = null;
        Set<String> missing = new TreeSet<>();
        for (Method method : BlockCells.class.getDeclaredMethods()) if (Modifier.isPublic(method.getModifiers())) missing.add(method.getName());
        int shown = 0;
        int wrong = 0;
        for (String line : lines) {
            if (NEW.matcher(line).matches()) cells = new BlockCells();
            if (!line.startsWith("cells.")) continue;
            Matcher call = CALL.matcher(line);
            boolean isCall = call.matches();
            long got = isCall ? answer(cells, call.group(1), call.group(2)) : 0;
            if (isCall) missing.remove(call.group(1));
            shown++;
            if (isCall && got == Long.parseLong(call.group(3))) continue;
            wrong++;
            System.out.println("README.md: " + line + " answered " + got);
        }
        if (!missing.isEmpty()) System.out.println("README.md shows no " + missing);
        System.out.println(shown - wrong + " calls answer as shown, " + wrong + " don't");
        if (wrong != 0 || shown == 0 || !missing.isEmpty()) System.exit(1);
    }

    private static long answer(BlockCells cells, String name, String told) throws IllegalAccessException, InvocationTargetException {
        String[] parts = told.isEmpty() ? new String[0] : told.split(", ");
        for (Method method : BlockCells.class.getMethods()) {
            if (!method.getName().equals(name) || method.getParameterCount() != parts.length) continue;
            Object[] values = new Object[parts.length];
            for (int i = 0; i < parts.length; i++) values[i] = value(method.getParameterTypes()[i], parts[i]);
            return ((Number) method.invoke(cells, values)).longValue();
        }
        throw new IllegalArgumentException(name);
    }

    private static Object value(Class<?> type, String text) {
        if (type == boolean.class) return Boolean.valueOf(text);
        if (type == long.class) return Long.valueOf(text);
        return text.startsWith("'") ? Integer.valueOf(text.charAt(1)) : Integer.valueOf(text);
    }
}
