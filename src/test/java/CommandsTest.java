/** Promises 53 to 55: the input, its commands and its syntax errors. */
public final class CommandsTest {
    private static final String TWO_PRINTS = """
            addTrack(3) = 0
            addPrint(0, 10, 4, 5, true, 3) = 0
            addPrint(0, 20, 4, 9, true, 9) = 1
            """;

    public static void main(String[] args) {
        appendInput();
        everyCommand();
        manyCommands();
        allOrNone();
        unfitCommands();
        rejectedCommands();
        theFirstFailureCounts();
        theInputIsEmptyAfterwards();
        syntaxErrors();
        latestSyntaxError();
        Runs.end();
    }

    private static void appendInput() {
        Runs.run("53 codes from 32 to 126", """
                appendInput((char) 31) = throws.IllegalArgumentException
                appendInput((char) 127) = throws.IllegalArgumentException
                appendInput((char) 0) = throws.IllegalArgumentException
                appendInput((char) 65535) = throws.IllegalArgumentException
                appendInput((char) 32) = 1
                appendInput((char) 126) = 2
                appendInput((char) 127) = throws.IllegalArgumentException
                appendInput(T) = 3
                undoCount() = 0
                """);
        Runs.run("53 sixty characters at most", """
                type 123456789012345678901234567890123456789012345678901234567890
                appendInput(1) = throws.IllegalStateException
                appendInput((char) 31) = throws.IllegalArgumentException
                execute() = throws.IllegalArgumentException
                syntaxErrorOffset() = 0
                appendInput(1) = 1
                """);
    }

    private static void everyCommand() {
        Runs.run("54 T and P", """
                type T9
                execute() = 1
                maxStride(0) = 9
                type P0@999:9,19R9
                execute() = 1
                trackOf(0) = 0
                timeOf(0) = 999
                rowOf(0) = 9
                columnOf(0) = 19
                isLeft(0) = false
                depthOf(0) = 9
                type P000@007:008,003L1
                execute() = 1
                timeOf(1) = 7
                rowOf(1) = 8
                columnOf(1) = 3
                isLeft(1) = true
                depthOf(1) = 1
                isLate(1) = true
                undoCount() = 3
                """);
        Runs.run("54 H, F, D, C, X and W", TWO_PRINTS + """
                type H0:4,6
                execute() = 1
                columnOf(0) = 6
                correctedHeels() = 1
                type H001:005,010
                execute() = 1
                rowOf(1) = 5
                columnOf(1) = 10
                type F0
                execute() = 1
                isLeft(0) = false
                type D1
                execute() = 1
                type D1
                execute() = 1
                doubtsOf(1) = 2
                doubtsOf(0) = 0
                type C1
                execute() = 1
                doubtsOf(1) = 0
                type W5
                execute() = 1
                tideLevel() = 5
                erasedPrints() = 1
                totalPrints() = 1
                type X1
                execute() = 1
                totalPrints() = 0
                erasedPrints() = 1
                type W0
                execute() = 1
                tideLevel() = 0
                undoCount() = 8
                """);
        Runs.run("54 ids of three digits", """
                addTrack(3) = 0
                """ + Runs.each(0, 104, """
                addPrint(0, 5, 5, 5, true, 3) = N
                removePrint(N) = 0
                """) + """
                type P0@1:5,5L3;F105
                execute() = 2
                isLeft(105) = false
                """);
    }

    private static void manyCommands() {
        Runs.run("54 a whole script, undone at once", """
                type T3;P0@10:4,5L3;P0@5:4,6R3;H1:4,7;D0;F1
                execute() = 6
                totalPrints() = 2
                errorCount(0) = 1
                isLate(1) = true
                isLeft(1) = true
                doubtsOf(0) = 1
                undoCount() = 1
                undo() = 0
                trackCount() = 0
                addTrack(1) = 0
                """);
        Runs.run("54 twenty commands", """
                type W1;W2;W3;W4;W5;W6;W7;W8;W7;W6;W5;W4;W3;W2;W1;W0;W1;W2;W3;W4
                execute() = 20
                tideLevel() = 4
                undoCount() = 1
                """);
        Runs.run("54 a twenty-first has no room", """
                type W1;W2;W3;W4;W5;W6;W7;W8;W7;W6;W5;W4;W3;W2;W1;W0;W1;W2;W3;W4;
                execute() = throws.IllegalArgumentException
                syntaxErrorOffset() = 60
                tideLevel() = 0
                """);
    }

    private static void allOrNone() {
        Runs.run("54 nothing of the commands ahead stays", TWO_PRINTS + """
                type T5;H0:4,6;F0;D0;X1;P0@1:5,5L3;W4;W4
                execute() = throws.UnsupportedOperationException
                trackCount() = 1
                totalPrints() = 2
                columnOf(0) = 5
                isLeft(0) = true
                doubtsOf(0) = 0
                tideLevel() = 0
                correctedHeels() = 0
                erasedPrints() = 0
                undoCount() = 3
                addTrack(2) = 1
                addPrint(1, 1, 5, 5, true, 3) = 2
                type W5;W9
                execute() = throws.IllegalStateException
                tideLevel() = 0
                totalPrints() = 3
                erasedPrints() = 0
                undoCount() = 5
                undo() = 4
                """);
        Runs.run("54 a full history survives a failure", Runs.each(1, 6, """
                addTrack(N) = N
                """).replace("= 1", "= 0").replace("= 2", "= 1").replace("= 3", "= 2")
                .replace("= 4", "= 3").replace("= 5", "= 4").replace("= 6", "= 5") + """
                setTide(1) = 0
                setTide(2) = 0
                type W3;T1
                execute() = throws.UnsupportedOperationException
                undoCount() = 8
                undo() = 7
                tideLevel() = 1
                undo() = 6
                undo() = 5
                undo() = 4
                undo() = 3
                undo() = 2
                undo() = 1
                undo() = 0
                trackCount() = 0
                undo() = throws.IllegalStateException
                """);
    }

    private static void unfitCommands() {
        String[] unfit = {"T0", "P1@1:5,5L3", "P999@1:5,5L3", "P0@1:10,5L3", "P0@1:5,20L3",
            "P0@1:999,999L3", "P0@1:5,5L0", "H2:4,5", "H0:10,5", "H0:4,20", "F2", "F999", "D2",
            "C2", "X2", "W9"};
        for (String command : unfit) {
            Runs.run("54 an id, a cell or a number that is not accepted", TWO_PRINTS
                    + "type " + command + """

                    execute() = throws.IllegalStateException
                    rejectionReason() = throws.NoSuchElementException
                    syntaxErrorOffset() = throws.NoSuchElementException
                    undoCount() = 3
                    totalPrints() = 2
                    """ + "type D0;" + command + """

                    execute() = throws.IllegalStateException
                    doubtsOf(0) = 0
                    rejectionReason() = throws.NoSuchElementException
                    """);
        }
    }

    private static void rejectedCommands() {
        String[][] rejected = {
            {"T1;T1;T1;T1;T1;T1", "5", "1", "6"},
            {"P0@10:5,5L3", "0", "3", "0"},
            {"D0;P0@11:4,9L3", "1", "5", "1"},
            {"H0:4,5", "0", "6", "0"},
            {"H0:4,8", "0", "6", "3"},
            {"H0:4,7;H1:4,7", "1", "5", "0"},
            {"W4;H0:3,5", "1", "4", "4"},
            {"W4;P0@1:3,5L3", "1", "4", "4"},
            {"D1;D1;D1;D1", "3", "7", "3"},
            {"C0", "0", "8", "0"},
            {"D0;C0;C0", "2", "8", "0"},
            {"W0", "0", "9", "0"},
            {"W3;W3", "1", "9", "3"},
            {"P0@1:5,5L3;P0@2:5,5L3", "1", "5", "2"},
        };
        for (String[] row : rejected) {
            Runs.run("54, 56 to 59 a rejected command", TWO_PRINTS + "type " + row[0]
                    + "\nexecute() = throws.UnsupportedOperationException\n"
                    + "rejectionReason() = 10\nrejectionDetail() = " + row[1]
                    + "\ncauseReason() = " + row[2] + "\ncauseDetail() = " + row[3]
                    + "\nundoCount() = 3\ntotalPrints() = 2\ntideLevel() = 0\n");
        }
        Runs.run("54, 56 to 59 the print limit in a command", "addTrack(3) = 0\n"
                + Runs.each(0, 9, "addPrint(0, N, 0, N, true, 1) = N")
                + Runs.each(0, 9, "addPrint(0, 1N, 1, N, true, 9) = 1N")
                + Runs.each(0, 8, "addPrint(0, 2N, 2, N, true, 1) = 2N") + """
                type P0@500:5,5L3;P0@501:5,6L3
                execute() = throws.UnsupportedOperationException
                rejectionDetail() = 1
                causeReason() = 2
                causeDetail() = 30
                totalPrints() = 29
                """);
    }

    private static void theFirstFailureCounts() {
        Runs.run("54 rejected ahead of unfit, unfit ahead of rejected, syntax ahead of both", """
                addTrack(3) = 0
                type W0;F7
                execute() = throws.UnsupportedOperationException
                rejectionDetail() = 0
                causeReason() = 9
                type F7;W0
                execute() = throws.IllegalStateException
                type W1;C5;W1
                execute() = throws.IllegalStateException
                rejectionDetail() = 0
                type W0;F7;
                execute() = throws.IllegalArgumentException
                syntaxErrorOffset() = 6
                type X0;P0@1:5,5L3
                execute() = throws.IllegalStateException
                type P0@1:5,5L3;X0;F0
                execute() = throws.IllegalStateException
                type P0@1:5,5L3;X0
                execute() = 2
                totalPrints() = 0
                addPrint(0, 1, 5, 5, true, 3) = 1
                """);
    }

    private static void theInputIsEmptyAfterwards() {
        Runs.run("54 after success, and after each exception", """
                appendInput(T) = 1
                appendInput(1) = 2
                execute() = 1
                appendInput(T) = 1
                execute() = throws.IllegalArgumentException
                appendInput(T) = 1
                appendInput(0) = 2
                execute() = throws.IllegalStateException
                appendInput(W) = 1
                appendInput(0) = 2
                execute() = throws.UnsupportedOperationException
                appendInput(W) = 1
                execute() = throws.IllegalArgumentException
                execute() = throws.IllegalArgumentException
                syntaxErrorOffset() = 0
                trackCount() = 1
                """);
        Runs.run("54 the input is left by undo, restoring and rejections", """
                addTrack(1) = 0
                saveSnapshot() = 0
                appendInput(W) = 1
                undo() = 0
                setTide(0) = throws.UnsupportedOperationException
                restoreSnapshot() = 0
                appendInput(4) = 2
                execute() = 1
                tideLevel() = 4
                """);
    }

    private static void syntaxErrors() {
        String[][] wrong = {
            {"Q", "0"}, {" ", "0"}, {"t1", "0"}, {";", "0"}, {"1", "0"}, {"~", "0"},
            {"T", "1"}, {"TT", "1"}, {"T 1", "1"}, {"T12", "2"}, {"T1 ", "2"}, {"T1;", "3"},
            {"T1;;", "3"}, {"T1;Q", "3"}, {"T1T1", "2"}, {"T-1", "1"},
            {"W", "1"}, {"Wx", "1"}, {"W10", "2"}, {"W9;", "3"}, {"W1;W", "4"},
            {"P", "1"}, {"P@", "1"}, {"P0", "2"}, {"P0:", "2"}, {"P0000", "4"}, {"P000", "4"},
            {"P0@", "3"}, {"P0@:", "3"}, {"P0@1", "4"}, {"P0@1@", "4"}, {"P0@1234", "6"},
            {"P0@1:", "5"}, {"P0@1:,", "5"}, {"P0@1:2", "6"}, {"P0@1:2:", "6"},
            {"P0@1:2345", "8"}, {"P0@1:2,", "7"}, {"P0@1:2,L", "7"}, {"P0@1:2,3", "8"},
            {"P0@1:2,3X", "8"}, {"P0@1:2,3l", "8"}, {"P0@1:2,3;", "8"}, {"P0@1:2,34567", "10"},
            {"P0@1:2,3L", "9"}, {"P0@1:2,3LL", "9"}, {"P0@1:2,3R", "9"}, {"P0@1:2,3R;", "9"},
            {"P0@1:2,3R45", "10"}, {"P0@1:2,3R4;", "11"},
            {"H", "1"}, {"H:", "1"}, {"H0", "2"}, {"H0@", "2"}, {"H0:", "3"}, {"H0:1", "4"},
            {"H0:1:", "4"}, {"H0:1,", "5"}, {"H0:1,;", "5"}, {"H0:1,2345", "8"},
            {"H0:1,2L", "6"}, {"H0000:", "4"}, {"H0:1234", "6"},
            {"F", "1"}, {"Fx", "1"}, {"F1234", "4"}, {"F12:", "3"}, {"F1;", "3"},
            {"D", "1"}, {"D1D", "2"}, {"D1234", "4"}, {"C", "1"}, {"C;", "1"}, {"C1234", "4"},
            {"X", "1"}, {"X/", "1"}, {"X:", "1"}, {"X1234", "4"}, {"T1;P0@1:2,3L4;H0:1,2x", "20"},
        };
        for (String[] row : wrong) {
            Runs.run("54 and 55 a syntax error", "type " + row[0] + """

                    execute() = throws.IllegalArgumentException
                    syntaxErrorOffset() = OFFSET
                    trackCount() = 0
                    tideLevel() = 0
                    undoCount() = 0
                    rejectionReason() = throws.NoSuchElementException
                    """.replace("OFFSET", row[1]));
        }
        Runs.run("54 and 55 an empty input", """
                execute() = throws.IllegalArgumentException
                syntaxErrorOffset() = 0
                """);
        Runs.run("54 and 55 a full input that ends too early", """
                type P000@000:000,000L1;P000@001:000,001L1;P000@002:000,002L1;P00
                execute() = throws.IllegalArgumentException
                syntaxErrorOffset() = 60
                """);
    }

    private static void latestSyntaxError() {
        Runs.run("55 the latest one, whatever comes between", """
                syntaxErrorOffset() = throws.NoSuchElementException
                addTrack(0) = throws.IllegalArgumentException
                syntaxErrorOffset() = throws.NoSuchElementException
                type T1;x
                execute() = throws.IllegalArgumentException
                syntaxErrorOffset() = 3
                type T1
                execute() = 1
                undo() = 0
                type T0
                execute() = throws.IllegalStateException
                saveSnapshot() = 0
                restoreSnapshot() = 0
                syntaxErrorOffset() = 3
                type T12
                execute() = throws.IllegalArgumentException
                syntaxErrorOffset() = 2
                """);
    }
}
