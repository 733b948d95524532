import java.lang.reflect.InvocationTargetException;
import java.lang.reflect.Method;
import java.lang.reflect.Modifier;
import java.util.ArrayList;
import java.util.Arrays;
import java.util.List;
import java.util.Map;
import java.util.TreeMap;

/** Makes the same long runs of calls, of a fixed sequence, on the program and on the model. */
public final class ModelTest {
    private static final int RUNS = 1500;
    /** What an object answers after its 512th call is free. */
    private static final int MOST_CALLS = 512;
    private static final int LONGEST_SCRIPT = 80;
    private static final Map<String, Method> OF_PROGRAM = publicMethods(SandProofreader.class);
    private static final Map<String, Method> OF_MODEL = publicMethods(Model.class);
    private static final TreeMap<String, Integer> SEEN = new TreeMap<>();
    private static final List<String> CHANGES = List.of("addTrack", "addPrint", "addPrint",
            "addPrint", "addPrint", "addPrint", "removePrint", "correctHeel", "correctHeel",
            "swapFoot", "doubtToes", "doubtToes", "confirmToes", "undo", "saveSnapshot");
    private static final List<String> RARE_CHANGES = List.of("removeTrack", "setTide",
            "restoreSnapshot");

    private final Dice dice;
    private final SandProofreader program = new SandProofreader();
    private final Model model = new Model();
    private final List<String> calls = new ArrayList<>();
    private final List<String> questions = new ArrayList<>();

    private ModelTest(int run) {
        dice = new Dice(run);
        questions.addAll(OF_MODEL.keySet());
        questions.removeAll(CHANGES);
        questions.removeAll(RARE_CHANGES);
        questions.removeAll(List.of("appendInput", "execute"));
    }

    private static Map<String, Method> publicMethods(Class<?> type) {
        Map<String, Method> methods = new TreeMap<>();
        for (Method method : type.getDeclaredMethods()) {
            if (Modifier.isPublic(method.getModifiers())) {
                methods.put(method.getName(), method);
            }
        }
        return methods;
    }

    /** A fixed sequence of numbers that look thrown, another for every run. */
    private static final class Dice {
        private long state;

        Dice(int run) {
            state = 0x9E3779B97F4A7C15L * (run + 1);
        }

        int any() {
            state = state * 6364136223846793005L + 1442695040888963407L;
            return (int) (state >>> 32);
        }

        int below(int end) {
            return Math.floorMod(any() >>> 3, end);
        }

        boolean heads() {
            return below(2) == 0;
        }
    }

    public static void main(String[] args) {
        Runs.due("the methods of both", OF_MODEL.keySet(), OF_PROGRAM.keySet());
        for (int run = 0; run < RUNS; run++) {
            if (!new ModelTest(run).agree()) {
                break;
            }
        }
        everyKindOfAnswerWasSeen();
        Runs.end();
    }

    private static void everyKindOfAnswerWasSeen() {
        for (String kind : List.of("reason 1", "reason 2", "reason 3", "reason 4", "reason 5",
                "reason 6", "reason 7", "reason 8", "reason 9", "cause 1", "cause 2", "cause 3",
                "cause 4", "cause 5", "cause 6", "cause 7", "cause 8", "cause 9",
                "execute throws.IllegalArgumentException", "execute throws.IllegalStateException",
                "execute throws.UnsupportedOperationException", "execute 1", "execute 5")) {
            Runs.due("the runs have " + kind, true, SEEN.getOrDefault(kind, 0) > 0);
        }
    }

    private boolean agree() {
        boolean crowded = dice.below(3) == 0;
        while (calls.size() + LONGEST_SCRIPT < MOST_CALLS) {
            int choice = dice.below(20);
            boolean same = choice < (crowded ? 14 : 7) ? same(pick(CHANGES))
                    : choice == 19 && (!crowded || dice.below(8) == 0)
                    ? same(pick(RARE_CHANGES))
                    : choice == 18 ? sameScript()
                    : same(pick(questions));
            if (!same) {
                return false;
            }
        }
        return true;
    }

    private String pick(List<String> names) {
        return names.get(dice.below(names.size()));
    }

    private boolean sameScript() {
        for (char character : script().toCharArray()) {
            if (!same("appendInput", character)) {
                return false;
            }
        }
        return same("execute");
    }

    private boolean same(String name) {
        return same(name, arguments(name, OF_MODEL.get(name).getParameterCount()));
    }

    private boolean same(String name, Object... arguments) {
        String want = answer(OF_MODEL.get(name), model, arguments);
        String got = answer(OF_PROGRAM.get(name), program, arguments);
        calls.add(name + Arrays.toString(arguments) + " = " + want);
        note(name, want);
        Runs.due(name + Arrays.toString(arguments), want, got);
        if (!want.equals(got)) {
            calls.forEach(System.out::println);
        }
        return want.equals(got);
    }

    private void note(String name, String answer) {
        if (name.equals("execute")) {
            SEEN.merge("execute " + answer, 1, Integer::sum);
        }
        if (answer.equals("throws.UnsupportedOperationException")) {
            String kind = name.equals("execute") ? "cause " + model.causeReason()
                    : "reason " + model.rejectionReason();
            SEEN.merge(kind, 1, Integer::sum);
        }
    }

    private static String answer(Method method, Object object, Object[] arguments) {
        try {
            return String.valueOf(method.invoke(object, arguments));
        } catch (InvocationTargetException e) {
            return "throws." + e.getCause().getClass().getSimpleName();
        } catch (IllegalAccessException e) {
            throw new IllegalStateException(e);
        }
    }

    // ---- arguments, most of them near those that fit

    private Object[] arguments(String name, int count) {
        switch (name) {
            case "addTrack":
                return new Object[] {number(1, 9)};
            case "addPrint":
                return new Object[] {track(), number(0, dice.heads() ? 999 : 40),
                    row(), number(0, 19), dice.heads(), number(1, 9)};
            case "setTide":
            case "erasedBy":
                return new Object[] {number(0, 8)};
            case "printIn":
                return new Object[] {row(), number(0, 19)};
            case "printsInRow":
            case "writeRow":
                return new Object[] {row()};
            case "correctHeel":
            case "canMove":
            case "errorsIfMoved":
                return nearCell();
            case "printAt":
                return new Object[] {track(), number(0, model.totalPrints() / 3)};
            case "trackByErrors":
                return new Object[] {number(0, 5)};
            case "printByDoubts":
            case "outputAt":
                return new Object[] {number(0, Math.max(2, model.totalPrints() - 1))};
            case "maxStride":
            case "printCount":
            case "trackLength":
            case "trackLengthAgain":
            case "errorCount":
            case "errorCountAgain":
            case "duration":
            case "averageStride":
            case "writeTrack":
            case "removeTrack":
                return new Object[] {track()};
            default:
                return count == 0 ? new Object[0] : new Object[] {print()};
        }
    }

    private Object[] nearCell() {
        int print = print();
        try {
            return new Object[] {print, model.rowOf(print) + dice.below(5) - 2,
                model.columnOf(print) + dice.below(5) - 2};
        } catch (IndexOutOfBoundsException e) {
            return new Object[] {print, row(), number(0, 19)};
        }
    }

    private int number(int least, int most) {
        int kind = dice.below(60);
        if (kind == 0) {
            return least - 1;
        }
        if (kind == 1) {
            return most + 1;
        }
        if (kind == 2) {
            return dice.any();
        }
        if (kind < 10) {
            return dice.heads() ? least : most;
        }
        return least + dice.below(most - least + 1);
    }

    private int row() {
        return dice.below(4) == 0 ? number(0, 9) : number(Math.min(9, model.tideLevel()), 9);
    }

    private int track() {
        int count = model.trackCount();
        if (count == 0 || dice.below(30) == 0) {
            return number(-1, 12);
        }
        return model.trackByErrors(dice.below(count));
    }

    private int print() {
        int count = model.totalPrints();
        if (count == 0 || dice.below(30) == 0) {
            return number(-1, 40);
        }
        return model.printByDoubts(dice.below(count));
    }

    // ---- scripts, some of them with a wrong character

    private String script() {
        StringBuilder script = new StringBuilder(command());
        while (dice.below(4) > 0 && script.length() < 48) {
            script.append(';').append(command());
        }
        if (dice.below(4) == 0) {
            corrupt(script);
        }
        return script.toString();
    }

    private void corrupt(StringBuilder script) {
        int at = dice.below(script.length());
        String signs = "TPHFDCXW@:;,LR0123456789 ~";
        char sign = signs.charAt(dice.below(signs.length()));
        switch (dice.below(4)) {
            case 0 -> script.setLength(at);
            case 1 -> script.setCharAt(at, sign);
            case 2 -> script.insert(at, sign);
            default -> script.deleteCharAt(at);
        }
    }

    private String command() {
        switch (dice.below(10)) {
            case 0:
                return "T" + dice.below(dice.below(20) == 0 ? 10 : 9) % 10;
            case 1:
                return dice.below(3) == 0 ? "W" + dice.below(10) : "D" + id(print());
            case 2:
                return "H" + id(print()) + ":" + dice.below(10) + "," + dice.below(20);
            case 3:
                Object[] near = nearCell();
                return "H" + id((int) near[0]) + ":" + id((int) near[1]) + "," + id((int) near[2]);
            case 4:
                return "F" + id(print());
            case 5:
                return "D" + id(print());
            case 6:
                return "C" + id(print());
            case 7:
                return dice.heads() ? "X" + id(print()) : "F" + id(print());
            default:
                return "P" + id(track()) + "@" + id(number(0, 60)) + ":" + id(row()) + ","
                        + id(number(0, 19)) + (dice.heads() ? "L" : "R")
                        + (1 + dice.below(9));
        }
    }

    /** A number of the command language; some with zeros ahead. */
    private String id(int value) {
        int small = Math.floorMod(value, 1000);
        return dice.below(20) == 0 ? String.format("%03d", small) : Integer.toString(small);
    }
}
