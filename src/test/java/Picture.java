import java.util.ArrayList;
import java.util.List;

/**
 * All that can be asked of an object after some calls. The calls are made again on a new object
 * for every part of the picture, so that no part sees what another has asked.
 */
final class Picture {
    static final String REJECTION = "latest rejection";
    static final String SYNTAX_ERROR = "latest syntax error";
    private static final int MOST_UNDONE = 9;

    private final List<String> calls;
    private final List<String> lines = new ArrayList<>();

    private Picture(List<String> calls) {
        this.calls = calls;
    }

    /** Tells where two pictures differ, but for the lines of one part. */
    static void compare(String where, List<String> former, List<String> later, String butFor) {
        List<String> before = new Picture(former).taken();
        List<String> after = new Picture(later).taken();
        if (!butFor.isEmpty()) {
            before.removeIf(line -> line.startsWith(butFor));
            after.removeIf(line -> line.startsWith(butFor));
        }
        for (int i = 0; i < before.size() && i < after.size(); i++) {
            if (!before.get(i).equals(after.get(i))) {
                Runs.due(where + ", what stands after it", before.get(i), after.get(i));
                return;
            }
        }
        Runs.due(where + ", what stands after it", before.size(), after.size());
    }

    private interface Question {
        Object ask();
    }

    private static Object answer(Question question) {
        try {
            return question.ask();
        } catch (RuntimeException e) {
            return "throws." + e.getClass().getSimpleName();
        }
    }

    private List<String> taken() {
        data("now", again());
        errors(again());
        output(again());
        SandProofreader asked = again();
        lines.add(REJECTION + " " + answer(asked::rejectionReason) + " "
                + answer(asked::rejectionDetail) + " " + answer(asked::causeReason) + " "
                + answer(asked::causeDetail));
        lines.add(SYNTAX_ERROR + " " + answer(asked::syntaxErrorOffset));
        lines.add("length of the input " + answer(() -> asked.appendInput(' ')));
        SandProofreader executed = again();
        lines.add("executed " + answer(executed::execute));
        data("executed", executed);
        SandProofreader restored = again();
        lines.add("restored " + answer(restored::restoreSnapshot));
        data("restored", restored);
        nextIds("restored", restored);
        nextIds("now", again());
        undoInTurn();
        return lines;
    }

    private SandProofreader again() {
        return Runs.after(calls);
    }

    private void undoInTurn() {
        for (int undone = 1; undone <= MOST_UNDONE; undone++) {
            SandProofreader object = again();
            Object answer = "";
            for (int i = 0; i < undone; i++) {
                answer = answer(object::undo);
            }
            String when = undone + " undone";
            lines.add(when + " " + answer);
            data(when, object);
            nextIds(when, object);
        }
    }

    private void data(String when, SandProofreader object) {
        lines.add(when + ": tide " + object.tideLevel() + ", erased " + object.erasedPrints()
                + ", corrected " + object.correctedHeels() + ", undo " + object.undoCount()
                + ", tracks " + object.trackCount() + ", prints " + object.totalPrints()
                + ", late " + answer(object::lateShare) + ", holds " + object.isConsistent());
        for (int i = 0; i < object.trackCount(); i++) {
            int track = object.trackByErrors(i);
            lines.add(when + ": track " + track + " " + object.maxStride(track) + " "
                    + object.printCount(track) + " " + object.errorCount(track) + " "
                    + object.trackLength(track) + " " + answer(() -> object.duration(track)));
        }
        for (int i = 0; i < object.totalPrints(); i++) {
            int print = object.printByDoubts(i);
            lines.add(when + ": print " + print + " " + object.trackOf(print) + " "
                    + object.timeOf(print) + " " + object.rowOf(print) + " "
                    + object.columnOf(print) + " " + object.isLeft(print) + " "
                    + object.depthOf(print) + " " + object.doubtsOf(print) + " "
                    + object.isLate(print));
        }
    }

    private void errors(SandProofreader object) {
        for (int i = 0; i < object.totalPrints(); i++) {
            int print = object.printByDoubts(i);
            lines.add("errors of " + print + " " + object.hasStrideError(print) + " "
                    + object.hasFootError(print) + " " + object.hasDepthError(print) + " "
                    + answer(() -> object.previousPrint(print)) + " "
                    + answer(() -> object.nextPrint(print)) + " "
                    + answer(() -> object.strideOf(print)) + " " + object.suggestCell(print)
                    + " " + object.printIn(object.rowOf(print), object.columnOf(print)));
        }
        for (int row = 0; row < 10; row++) {
            lines.add("row " + row + " has " + object.printsInRow(row));
        }
    }

    private void output(SandProofreader object) {
        StringBuilder text = new StringBuilder();
        Object sign = answer(() -> object.outputAt(0));
        while (sign instanceof Character) {
            text.append(sign);
            sign = answer(() -> object.outputAt(text.length()));
        }
        lines.add("output " + text + " " + sign);
    }

    private void nextIds(String when, SandProofreader object) {
        while (object.trackCount() > 0) {
            object.removeTrack(object.trackByErrors(0));
        }
        int track = object.addTrack(1);
        lines.add(when + ": the next ids " + track + " "
                + object.addPrint(track, 0, 9, 0, true, 1));
    }
}
