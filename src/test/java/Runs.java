import java.lang.reflect.InvocationTargetException;
import java.lang.reflect.Method;
import java.util.ArrayList;
import java.util.HashMap;
import java.util.List;
import java.util.Map;
import java.util.regex.Matcher;
import java.util.regex.Pattern;

/**
 * Runs of calls, each on a new object, written as the issues write them.
 *
 * A row is "call(arguments) = answer"; an exception is written "throws." and its name. Rows that
 * are short for many calls, and rows that also look at what a call leaves as it was, are told in
 * README.md.
 */
final class Runs {
    private static final Pattern ROW = Pattern.compile("(\\w+)\\((.*)\\) = (.*)");
    private static final Pattern SIGN_BY_CODE = Pattern.compile("\\(char\\) (\\d+)");
    private static final Pattern REPEATED = Pattern.compile("for N (from|in) ([^:]*): (.*)");
    /** The N of "for N ..", but not that of NoSuchElementException. */
    private static final String REPLACED = "N(?!oSuch)";
    /** What an object answers after its 512th call is free. */
    private static final int MOST_CALLS = 512;
    private static final Map<String, Method> FACE = new HashMap<>();

    static {
        for (Method method : SandProofreader.class.getMethods()) {
            FACE.put(method.getName(), method);
        }
    }

    private static int right = 0;
    private static int wrong = 0;

    private final SandProofreader object = new SandProofreader();
    private final List<String> calls = new ArrayList<>();
    private String where;

    private Runs() {
    }

    /** Makes the calls of a run on a new object, and counts the answers. */
    static void run(String name, String rows) {
        Runs run = new Runs();
        int line = 0;
        for (String row : rows.strip().split("\n")) {
            line++;
            run.repeat(name + ", row " + line, row.stripLeading());
        }
    }

    /** Repeats rows with every number from one to another in the place of N. */
    static String each(int from, int to, String rows) {
        StringBuilder all = new StringBuilder();
        for (int i = from; i <= to; i++) {
            all.append(rows.strip().replace("N", Integer.toString(i))).append('\n');
        }
        return all.toString();
    }

    static void due(String where, Object want, Object got) {
        if (String.valueOf(want).equals(String.valueOf(got))) {
            right++;
        } else {
            wrong++;
            System.out.println(where + " answered " + got + ", due is " + want);
        }
    }

    /** Ends the test: with exit code 1 if an answer was not the one that is due. */
    static void end() {
        System.out.println(right + " answers are as due, " + wrong + " are not");
        if (wrong > 0 || right == 0) {
            System.exit(1);
        }
    }

    /** Makes calls as "name(arguments)" on a new object. */
    static SandProofreader after(List<String> calls) {
        SandProofreader object = new SandProofreader();
        for (String call : calls) {
            Matcher parts = parts(call + " = ");
            answer(object, parts.group(1), parts.group(2));
        }
        return object;
    }

    // ---- the kinds of rows

    private void repeat(String place, String row) {
        Matcher repeated = REPEATED.matcher(row);
        if (!repeated.matches()) {
            where = place + ": " + row;
            make(row);
            due(where + ", too many calls", true, calls.size() <= MOST_CALLS);
            return;
        }
        for (String number : numbers(repeated.group(1), repeated.group(2))) {
            for (String each : repeated.group(3).split(" \\| ")) {
                repeat(place, each.replaceAll(REPLACED, number));
            }
        }
    }

    private static List<String> numbers(String kind, String text) {
        if (kind.equals("in")) {
            return List.of(text.split(" "));
        }
        String[] ends = text.split(" to ");
        List<String> numbers = new ArrayList<>();
        for (int i = Integer.parseInt(ends[0]); i <= Integer.parseInt(ends[1]); i++) {
            numbers.add(Integer.toString(i));
        }
        return numbers;
    }

    private void make(String row) {
        String kind = row.substring(0, Math.max(row.indexOf(' '), 0));
        String rest = row.substring(Math.min(kind.length() + 1, row.length()));
        switch (kind) {
            case "type" -> type(rest);
            case "output" -> readOutput(rest.substring("= ".length()));
            case "kept" -> keptBy(rest);
            case "rejected" -> rejected(rest);
            case "script" -> script(before(rest), behind(rest));
            case "syntax" -> syntax(before(rest), behind(rest));
            case "unfit" -> unfit(rest);
            case "objection" -> objection(before(rest), behind(rest).split(" "));
            case "same" -> same(before(rest), behind(rest));
            default -> ask(row);
        }
    }

    private static String before(String text) {
        return text.substring(0, text.lastIndexOf(" = "));
    }

    private static String behind(String text) {
        return text.substring(text.lastIndexOf(" = ") + " = ".length());
    }

    /** A call and the answer that is due. */
    private void ask(String row) {
        Matcher parts = parts(row);
        calls.add(parts.group(1) + "(" + parts.group(2) + ")");
        due(where, parts.group(3), answer(object, parts.group(1), parts.group(2)));
    }

    /** A call that leaves everything as it was. */
    private void keptBy(String row) {
        List<String> former = List.copyOf(calls);
        ask(row);
        Picture.compare(where, former, calls, "");
    }

    /** A rejected call, with its reason and its detail: it leaves all but the latest rejection. */
    private void rejected(String row) {
        List<String> former = List.copyOf(calls);
        String[] due = behind(row).split(" ");
        ask(before(row) + " = throws.UnsupportedOperationException");
        Picture.compare(where, former, calls, Picture.REJECTION);
        due(where + ", reason", due[0], object.rejectionReason());
        due(where + ", detail", due[1], object.rejectionDetail());
        due(where + ", cause", "throws.NoSuchElementException", answer(object, "causeReason", ""));
        due(where + ", cause", "throws.NoSuchElementException", answer(object, "causeDetail", ""));
    }

    /** Commands that are typed and executed; the number of them is due. */
    private void script(String text, String answer) {
        type(text);
        ask("execute() = " + answer);
        due(where + ", the input behind it", 1, Runs.after(calls).appendInput(' '));
    }

    /** Commands with a syntax error at an offset: they leave all but the latest syntax error. */
    private void syntax(String text, String offset) {
        List<String> former = List.copyOf(calls);
        script(text, "throws.IllegalArgumentException");
        due(where + ", offset", offset, object.syntaxErrorOffset());
        Picture.compare(where, former, calls, Picture.SYNTAX_ERROR);
    }

    /** Commands of which one has a number that its method does not accept: they leave all. */
    private void unfit(String text) {
        List<String> former = List.copyOf(calls);
        script(text, "throws.IllegalStateException");
        Picture.compare(where, former, calls, "");
    }

    /** Commands of which one is rejected: its number, and the reason and detail of its cause. */
    private void objection(String text, String[] due) {
        List<String> former = List.copyOf(calls);
        script(text, "throws.UnsupportedOperationException");
        Picture.compare(where, former, calls, Picture.REJECTION);
        due(where + ", reason", 10, object.rejectionReason());
        due(where + ", number", due[0], object.rejectionDetail());
        due(where + ", reason of the cause", due[1], object.causeReason());
        due(where + ", detail of the cause", due[2], object.causeDetail());
    }

    /** A command that leaves all as a call of its method would leave it. */
    private void same(String text, String call) {
        List<String> called = new ArrayList<>(calls);
        called.add(call);
        script(text, "1");
        Picture.compare(where, called, calls, "");
    }

    private void type(String text) {
        int length = 0;
        for (char sign : text.toCharArray()) {
            calls.add("appendInput((char) " + (int) sign + ")");
            int answer = object.appendInput(sign);
            due(where, length == 0 ? answer : length + 1, answer);
            length = answer;
        }
    }

    private void readOutput(String text) {
        for (int i = 0; i < text.length(); i++) {
            due(where + ", index " + i, text.charAt(i), answer(object, "outputAt", "" + i));
        }
        due(where + ", behind its end", "throws.IndexOutOfBoundsException",
                answer(object, "outputAt", "" + text.length()));
    }

    // ---- calls by their names

    private static Matcher parts(String row) {
        Matcher parts = ROW.matcher(row);
        if (!parts.matches() || !FACE.containsKey(parts.group(1))) {
            throw new IllegalStateException("no row of a run: " + row);
        }
        return parts;
    }

    private static String answer(SandProofreader object, String name, String arguments) {
        Method method = FACE.get(name);
        try {
            return String.valueOf(method.invoke(object,
                    read(method.getParameterTypes(), arguments)));
        } catch (InvocationTargetException e) {
            return "throws." + e.getCause().getClass().getSimpleName();
        } catch (IllegalAccessException e) {
            throw new IllegalStateException(e);
        }
    }

    private static Object[] read(Class<?>[] types, String arguments) {
        String[] words = arguments.isEmpty() ? new String[0] : arguments.split(", ");
        if (words.length != types.length) {
            throw new IllegalStateException("wrong number of arguments: " + arguments);
        }
        Object[] values = new Object[words.length];
        for (int i = 0; i < words.length; i++) {
            values[i] = read(types[i], words[i]);
        }
        return values;
    }

    private static Object read(Class<?> type, String word) {
        if (type == boolean.class) {
            return Boolean.valueOf(word);
        }
        if (type == char.class) {
            Matcher code = SIGN_BY_CODE.matcher(word);
            return code.matches() ? (char) Integer.parseInt(code.group(1)) : word.charAt(0);
        }
        return Integer.valueOf(word);
    }
}
