import java.lang.reflect.InvocationTargetException;
import java.lang.reflect.Method;
import java.util.regex.Matcher;
import java.util.regex.Pattern;

/**
 * Runs of calls, each on a new object, written as the issues write them.
 *
 * A row is "call(arguments) = answer"; an exception is written "throws." and its name. Two rows
 * are short for many calls: "type TEXT" appends every character of the text to the input, and
 * "output = TEXT" asks for every character of the output and for the one behind it.
 */
final class Runs {
    private static final Pattern ROW = Pattern.compile("(\\w+)\\((.*)\\) = (.*)");
    private static final Pattern SIGN_BY_CODE = Pattern.compile("\\(char\\) (\\d+)");

    private static int right = 0;
    private static int wrong = 0;

    private Runs() {
    }

    /** Makes the calls of a run on a new object, and counts the answers. */
    static void run(String name, String rows) {
        SandProofreader object = new SandProofreader();
        int line = 0;
        for (String row : rows.strip().split("\n")) {
            line++;
            String where = name + ", row " + line + ": " + row;
            if (row.startsWith("type ")) {
                type(object, where, row.substring("type ".length()));
            } else if (row.startsWith("output = ")) {
                readOutput(object, where, row.substring("output = ".length()));
            } else {
                Matcher parts = ROW.matcher(row);
                if (!parts.matches()) {
                    throw new IllegalStateException("no row of a run: " + where);
                }
                due(where, parts.group(3), answer(object, parts.group(1), parts.group(2)));
            }
        }
    }

    /** Repeats rows with every number from one to another in the place of N. */
    static String each(int from, int to, String rows) {
        StringBuilder all = new StringBuilder();
        for (int i = from; i <= to; i++) {
            all.append(rows.strip().replace("N", Integer.toString(i))).append('\n');
        }
        return all.toString();
    }

    static void due(String where, Object want, Object got) {
        if (String.valueOf(want).equals(String.valueOf(got))) {
            right++;
        } else {
            wrong++;
            System.out.println(where + " answered " + got + ", due is " + want);
        }
    }

    /** Ends the test: with exit code 1 if an answer was not the one that is due. */
    static void end() {
        System.out.println(right + " answers are as due, " + wrong + " are not");
        if (wrong > 0 || right == 0) {
            System.exit(1);
        }
    }

    private static void type(SandProofreader object, String where, String text) {
        int first = object.appendInput(text.charAt(0));
        for (int i = 1; i < text.length(); i++) {
            due(where, first + i, object.appendInput(text.charAt(i)));
        }
    }

    private static void readOutput(SandProofreader object, String where, String text) {
        for (int i = 0; i < text.length(); i++) {
            due(where + ", index " + i, text.charAt(i), answer(object, "outputAt", "" + i));
        }
        due(where + ", behind its end", "throws.IndexOutOfBoundsException",
                answer(object, "outputAt", "" + text.length()));
    }

    private static String answer(SandProofreader object, String name, String arguments) {
        for (Method method : SandProofreader.class.getMethods()) {
            if (method.getName().equals(name)) {
                return answer(object, method, read(method.getParameterTypes(), arguments));
            }
        }
        throw new IllegalStateException("no method of the face: " + name);
    }

    private static String answer(SandProofreader object, Method method, Object[] values) {
        try {
            return String.valueOf(method.invoke(object, values));
        } catch (InvocationTargetException e) {
            return "throws." + e.getCause().getClass().getSimpleName();
        } catch (IllegalAccessException e) {
            throw new IllegalStateException(e);
        }
    }

    private static Object[] read(Class<?>[] types, String arguments) {
        String[] words = arguments.isEmpty() ? new String[0] : arguments.split(", ");
        if (words.length != types.length) {
            throw new IllegalStateException("wrong number of arguments: " + arguments);
        }
        Object[] values = new Object[words.length];
        for (int i = 0; i < words.length; i++) {
            values[i] = read(types[i], words[i]);
        }
        return values;
    }

    private static Object read(Class<?> type, String word) {
        if (type == boolean.class) {
            return Boolean.valueOf(word);
        }
        if (type == char.class) {
            Matcher code = SIGN_BY_CODE.matcher(word);
            return code.matches() ? (char) Integer.parseInt(code.group(1)) : word.charAt(0);
        }
        return Integer.valueOf(word);
    }
}
