import java.util.ArrayDeque;
import java.util.ArrayList;
import java.util.Comparator;
import java.util.Deque;
import java.util.List;
import java.util.NoSuchElementException;
import java.util.TreeMap;
import java.util.function.ToIntFunction;
import java.util.regex.Matcher;
import java.util.regex.Pattern;

/**
 * The document once more, in another way: sorted maps that are copied whole, a regular expression
 * for the commands, and sorting for every order. ModelTest compares the program with it.
 */
final class Model {
    private static final String NUMBER = "(\\d{1,3})";
    private static final String COMMAND = "(?:T\\d|P" + NUMBER + "@" + NUMBER + ":" + NUMBER + ","
            + NUMBER + "[LR]\\d|H" + NUMBER + ":" + NUMBER + "," + NUMBER + "|[FDCX]" + NUMBER
            + "|W\\d)";
    private static final Pattern SCRIPT = Pattern.compile(COMMAND + "(?:;" + COMMAND + ")*");

    private record Print(int id, int track, int time, int row, int column, boolean left, int depth,
            int doubts, boolean late) {
        Print at(int newRow, int newColumn) {
            return new Print(id, track, time, newRow, newColumn, left, depth, doubts, late);
        }

        Print with(boolean newLeft, int newDoubts) {
            return new Print(id, track, time, row, column, newLeft, depth, newDoubts, late);
        }

        int distance(int toRow, int toColumn) {
            return Math.abs(row - toRow) + Math.abs(column - toColumn);
        }
    }

    private static final class State {
        TreeMap<Integer, Integer> strides = new TreeMap<>();
        TreeMap<Integer, Print> prints = new TreeMap<>();
        int tide;
        int tracksGiven;
        int printsGiven;
        int erased;
        int corrected;

        State copy() {
            State copy = new State();
            copy.strides.putAll(strides);
            copy.prints.putAll(prints);
            copy.tide = tide;
            copy.tracksGiven = tracksGiven;
            copy.printsGiven = printsGiven;
            copy.erased = erased;
            copy.corrected = corrected;
            return copy;
        }
    }

    private static final class Rejected extends RuntimeException {
        private static final long serialVersionUID = 1L;
        final int reason;
        final int detail;

        Rejected(int reason, int detail) {
            this.reason = reason;
            this.detail = detail;
        }
    }

    private interface Change {
        int make();
    }

    private State now = new State();
    private State saved;
    private final Deque<State> past = new ArrayDeque<>();
    private String input = "";
    private String output = "";
    private int[] rejection;
    private int[] cause;
    private Integer wrongSign;

    // ---- changes

    /** Makes a change; a rejected one leaves the state, whatever it has done so far. */
    private int change(Change change) {
        State before = now;
        now = before.copy();
        try {
            int answer = change.make();
            past.addFirst(before);
            if (past.size() > 8) {
                past.removeLast();
            }
            return answer;
        } catch (Rejected e) {
            now = before;
            rejection = new int[] {e.reason, e.detail};
            cause = null;
            throw new UnsupportedOperationException(e);
        } catch (RuntimeException e) {
            now = before;
            throw e;
        }
    }

    public int addTrack(int maxStride) {
        return change(() -> makeTrack(maxStride));
    }

    private int makeTrack(int maxStride) {
        fit(maxStride, 1, 9);
        reject(now.strides.size() >= 6, 1, 6);
        now.strides.put(now.tracksGiven, maxStride);
        return now.tracksGiven++;
    }

    public int removeTrack(int track) {
        return change(() -> {
            knowTrack(track);
            int before = now.prints.size();
            now.strides.remove(track);
            now.prints.values().removeIf(print -> print.track == track);
            return before - now.prints.size();
        });
    }

    public int addPrint(int track, int time, int row, int column, boolean left, int depth) {
        return change(() -> makePrint(track, time, row, column, left, depth));
    }

    private int makePrint(int track, int time, int row, int column, boolean left, int depth) {
        knowTrack(track);
        knowCell(row, column);
        fit(time, 0, 999);
        fit(depth, 1, 9);
        reject(now.prints.size() >= 30, 2, 30);
        for (Print other : line(track)) {
            reject(other.time == time, 3, other.id);
        }
        rejectCell(row, column);
        List<Print> line = line(track);
        boolean late = !line.isEmpty() && line.get(line.size() - 1).time > time;
        int id = now.printsGiven++;
        now.prints.put(id, new Print(id, track, time, row, column, left, depth, 0, late));
        return id;
    }

    public int removePrint(int print) {
        return change(() -> dropPrint(print));
    }

    private int dropPrint(int print) {
        knowPrint(print);
        return now.prints.remove(print).track;
    }

    public int correctHeel(int print, int row, int column) {
        return change(() -> moveHeel(print, row, column));
    }

    private int moveHeel(int print, int row, int column) {
        Print moved = knowPrint(print);
        knowCell(row, column);
        int distance = moved.distance(row, column);
        reject(distance == 0 || distance > 2, 6, distance);
        rejectCell(row, column);
        now.prints.put(print, moved.at(row, column));
        now.corrected++;
        return distance;
    }

    public boolean swapFoot(int print) {
        return change(() -> turnFoot(print)) == 1;
    }

    private int turnFoot(int print) {
        Print here = knowPrint(print);
        now.prints.put(print, here.with(!here.left, here.doubts));
        return here.left ? 0 : 1;
    }

    public int doubtToes(int print) {
        return change(() -> addDoubt(print));
    }

    private int addDoubt(int print) {
        Print here = knowPrint(print);
        reject(here.doubts == 3, 7, 3);
        now.prints.put(print, here.with(here.left, here.doubts + 1));
        return here.doubts + 1;
    }

    public int confirmToes(int print) {
        return change(() -> dropDoubts(print));
    }

    private int dropDoubts(int print) {
        Print here = knowPrint(print);
        reject(here.doubts == 0, 8, 0);
        now.prints.put(print, here.with(here.left, 0));
        return here.doubts;
    }

    public int setTide(int level) {
        return change(() -> moveTide(level));
    }

    private int moveTide(int level) {
        fit(level, 0, 8);
        reject(level == now.tide, 9, level);
        int before = now.prints.size();
        now.tide = level;
        now.prints.values().removeIf(print -> print.row < level);
        now.erased += before - now.prints.size();
        return before - now.prints.size();
    }

    // ---- one print

    public int trackOf(int print) {
        return knowPrint(print).track;
    }

    public int timeOf(int print) {
        return knowPrint(print).time;
    }

    public int rowOf(int print) {
        return knowPrint(print).row;
    }

    public int columnOf(int print) {
        return knowPrint(print).column;
    }

    public boolean isLeft(int print) {
        return knowPrint(print).left;
    }

    public int depthOf(int print) {
        return knowPrint(print).depth;
    }

    public int doubtsOf(int print) {
        return knowPrint(print).doubts;
    }

    public double confidence(int print) {
        return 1.0 / (1.0 + knowPrint(print).doubts);
    }

    public boolean isLate(int print) {
        return knowPrint(print).late;
    }

    public int previousPrint(int print) {
        return neighbour(print, -1).id;
    }

    public int nextPrint(int print) {
        return neighbour(print, 1).id;
    }

    private Print neighbour(int print, int step) {
        List<Print> line = line(knowPrint(print).track);
        return element(line, line.indexOf(knowPrint(print)) + step);
    }

    public int strideOf(int print) {
        Print previous = neighbour(print, -1);
        return knowPrint(print).distance(previous.row, previous.column);
    }

    public boolean hasStrideError(int print) {
        return errors(knowPrint(print))[0] == 1;
    }

    public boolean hasFootError(int print) {
        return errors(knowPrint(print))[1] == 1;
    }

    public boolean hasDepthError(int print) {
        return errors(knowPrint(print))[2] == 1;
    }

    private int[] errors(Print print) {
        List<Print> line = line(print.track);
        int position = line.indexOf(print);
        if (position == 0) {
            return new int[3];
        }
        Print previous = line.get(position - 1);
        int stride = print.distance(previous.row, previous.column);
        return new int[] {
            stride > now.strides.get(print.track) ? 1 : 0,
            previous.left == print.left ? 1 : 0,
            previous.depth > print.depth + 3 || print.depth > previous.depth + 3 ? 1 : 0,
        };
    }

    // ---- one track

    public int maxStride(int track) {
        knowTrack(track);
        return now.strides.get(track);
    }

    public int printCount(int track) {
        knowTrack(track);
        return line(track).size();
    }

    public int printAt(int track, int position) {
        knowTrack(track);
        return element(line(track), position).id;
    }

    public int trackLength(int track) {
        knowTrack(track);
        List<Print> line = line(track);
        int length = 0;
        for (int i = 1; i < line.size(); i++) {
            length += line.get(i).distance(line.get(i - 1).row, line.get(i - 1).column);
        }
        return length;
    }

    public int trackLengthAgain(int track) {
        return trackLength(track);
    }

    public int errorCount(int track) {
        knowTrack(track);
        int errors = 0;
        for (Print print : line(track)) {
            for (int error : errors(print)) {
                errors += error;
            }
        }
        return errors;
    }

    public int errorCountAgain(int track) {
        return errorCount(track);
    }

    public int duration(int track) {
        knowTrack(track);
        List<Print> line = line(track);
        return element(line, line.size() - 1).time - line.get(0).time;
    }

    public double averageStride(int track) {
        int strides = printCount(track) - 1;
        if (strides < 1) {
            throw new ArithmeticException();
        }
        return (double) trackLength(track) / strides;
    }

    // ---- proofreading

    public int errorsIfMoved(int print, int row, int column) {
        Print here = knowPrint(print);
        knowCell(row, column);
        State before = now;
        now = before.copy();
        now.prints.put(print, here.at(row, column));
        int errors = errorCount(here.track);
        now = before;
        return errors;
    }

    public boolean canMove(int print, int row, int column) {
        State before = now;
        now = before.copy();
        try {
            moveHeel(print, row, column);
            return true;
        } catch (Rejected e) {
            return false;
        } finally {
            now = before;
        }
    }

    public int suggestCell(int print) {
        Print here = knowPrint(print);
        List<Integer> cells = new ArrayList<>();
        for (int cell = 0; cell < 200; cell++) {
            if (here.distance(cell / 20, cell % 20) == 0 || canMove(print, cell / 20, cell % 20)) {
                cells.add(cell);
            }
        }
        ToIntFunction<Integer> errors = cell -> errorsIfMoved(print, cell / 20, cell % 20);
        ToIntFunction<Integer> distance = cell -> here.distance(cell / 20, cell % 20);
        cells.sort(Comparator.comparingInt(errors).thenComparingInt(distance)
                .thenComparing(Comparator.naturalOrder()));
        return cells.get(0);
    }

    public int trackByErrors(int position) {
        List<Integer> ids = new ArrayList<>(now.strides.keySet());
        ToIntFunction<Integer> errors = id -> -errorCount(id);
        ToIntFunction<Integer> prints = id -> -printCount(id);
        ids.sort(Comparator.comparingInt(errors).thenComparingInt(prints)
                .thenComparing(Comparator.naturalOrder()));
        return element(ids, position);
    }

    public int printByDoubts(int position) {
        List<Print> all = new ArrayList<>(now.prints.values());
        ToIntFunction<Print> doubts = print -> -print.doubts;
        all.sort(Comparator.comparingInt(doubts).thenComparingInt(Print::time)
                .thenComparingInt(Print::id));
        return element(all, position).id;
    }

    // ---- the beach

    public int printIn(int row, int column) {
        knowCell(row, column);
        return now.prints.values().stream().filter(print -> print.distance(row, column) == 0)
                .findFirst().orElseThrow().id;
    }

    public int printsInRow(int row) {
        knowCell(row, 0);
        return (int) now.prints.values().stream().filter(print -> print.row == row).count();
    }

    public int tideLevel() {
        return now.tide;
    }

    public int erasedBy(int level) {
        fit(level, 0, 8);
        return (int) now.prints.values().stream().filter(print -> print.row < level).count();
    }

    public int trackCount() {
        return now.strides.size();
    }

    public int totalPrints() {
        return now.prints.size();
    }

    public int erasedPrints() {
        return now.erased;
    }

    public int correctedHeels() {
        return now.corrected;
    }

    public float lateShare() {
        if (now.prints.isEmpty()) {
            throw new ArithmeticException();
        }
        float late = now.prints.values().stream().filter(Print::late).count();
        return late / now.prints.size();
    }

    public boolean isConsistent() {
        return true;
    }

    // ---- text output

    public int writeTrack(int track) {
        knowTrack(track);
        StringBuilder text = new StringBuilder();
        for (Print print : line(track)) {
            int[] errors = errors(print);
            text.append(print.left ? "L" : "R").append(print.doubts > 0 ? "?" : "")
                    .append(errors[0] + errors[1] + errors[2] > 0 ? "!" : "");
        }
        output = text.toString();
        return output.length();
    }

    public int writeRow(int row) {
        knowCell(row, 0);
        char[] text = (row < now.tide ? "~" : ".").repeat(20).toCharArray();
        for (Print print : now.prints.values()) {
            if (print.row == row) {
                String id = Integer.toString(print.id);
                text[print.column] = id.charAt(id.length() - 1);
            }
        }
        output = new String(text);
        return output.length();
    }

    public char outputAt(int index) {
        if (index < 0 || index >= output.length()) {
            throw new IndexOutOfBoundsException();
        }
        return output.charAt(index);
    }

    // ---- commands

    public int appendInput(char character) {
        fit(character, ' ', '~');
        if (input.length() == 60) {
            throw new IllegalStateException();
        }
        input += character;
        return input.length();
    }

    public int execute() {
        String text = input;
        input = "";
        if (!SCRIPT.matcher(text).matches()) {
            wrongSign = offset(text);
            throw new IllegalArgumentException();
        }
        String[] commands = text.split(";");
        int[] causeOfAll = new int[2];
        try {
            return change(() -> {
                for (int i = 0; i < commands.length; i++) {
                    try {
                        make(commands[i]);
                    } catch (Rejected e) {
                        causeOfAll[0] = e.reason;
                        causeOfAll[1] = e.detail;
                        throw new Rejected(10, i);
                    } catch (RuntimeException e) {
                        throw new IllegalStateException(e);
                    }
                }
                return commands.length;
            });
        } catch (UnsupportedOperationException e) {
            cause = causeOfAll;
            throw e;
        }
    }

    /** The shortest beginning that no input has ends with the first wrong character. */
    private static int offset(String text) {
        for (int end = 1; end <= text.length(); end++) {
            Matcher beginning = SCRIPT.matcher(text.substring(0, end));
            if (!beginning.matches() && !beginning.hitEnd()) {
                return end - 1;
            }
        }
        return text.length();
    }

    private void make(String command) {
        String[] numbers = command.substring(1).split("[^0-9]");
        int[] values = new int[numbers.length];
        for (int i = 0; i < numbers.length; i++) {
            values[i] = Integer.parseInt(numbers[i]);
        }
        switch (command.charAt(0)) {
            case 'T' -> makeTrack(values[0]);
            case 'P' -> makePrint(values[0], values[1], values[2], values[3],
                    command.contains("L"), values[4]);
            case 'H' -> moveHeel(values[0], values[1], values[2]);
            case 'F' -> turnFoot(values[0]);
            case 'D' -> addDoubt(values[0]);
            case 'C' -> dropDoubts(values[0]);
            case 'X' -> dropPrint(values[0]);
            default -> moveTide(values[0]);
        }
    }

    public int syntaxErrorOffset() {
        if (wrongSign == null) {
            throw new NoSuchElementException();
        }
        return wrongSign;
    }

    // ---- rejections and history

    public int rejectionReason() {
        return first(rejection, 0);
    }

    public int rejectionDetail() {
        return first(rejection, 1);
    }

    public int causeReason() {
        return first(cause, 0);
    }

    public int causeDetail() {
        return first(cause, 1);
    }

    private static int first(int[] pair, int index) {
        if (pair == null) {
            throw new NoSuchElementException();
        }
        return pair[index];
    }

    public int undo() {
        if (past.isEmpty()) {
            throw new IllegalStateException();
        }
        now = past.removeFirst();
        return past.size();
    }

    public int undoCount() {
        return past.size();
    }

    public int saveSnapshot() {
        saved = now.copy();
        return now.prints.size();
    }

    public int restoreSnapshot() {
        if (saved == null) {
            throw new IllegalStateException();
        }
        now = saved.copy();
        past.clear();
        return now.prints.size();
    }

    // ---- what a call asks of its arguments

    private void knowTrack(int track) {
        if (!now.strides.containsKey(track)) {
            throw new IndexOutOfBoundsException();
        }
    }

    private Print knowPrint(int print) {
        if (!now.prints.containsKey(print)) {
            throw new IndexOutOfBoundsException();
        }
        return now.prints.get(print);
    }

    private static void knowCell(int row, int column) {
        if (row < 0 || row > 9 || column < 0 || column > 19) {
            throw new IndexOutOfBoundsException();
        }
    }

    private static void fit(int value, int least, int most) {
        if (value < least || value > most) {
            throw new IllegalArgumentException();
        }
    }

    private static void reject(boolean applies, int reason, int detail) {
        if (applies) {
            throw new Rejected(reason, detail);
        }
    }

    private void rejectCell(int row, int column) {
        reject(row < now.tide, 4, now.tide);
        for (Print other : now.prints.values()) {
            reject(other.distance(row, column) == 0, 5, other.id);
        }
    }

    private List<Print> line(int track) {
        List<Print> line = new ArrayList<>();
        for (Print print : now.prints.values()) {
            if (print.track == track) {
                line.add(print);
            }
        }
        line.sort(Comparator.comparingInt(Print::time));
        return line;
    }

    private static <T> T element(List<T> list, int index) {
        if (index < 0 || index >= list.size()) {
            throw new NoSuchElementException();
        }
        return list.get(index);
    }
}
