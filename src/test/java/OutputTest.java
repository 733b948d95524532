/** Promises 50 to 52: text output. */
public final class OutputTest {
    private static final String BEACH = """
            addTrack(3) = 0
            addTrack(9) = 1
            addPrint(0, 10, 4, 5, true, 3) = 0
            addPrint(0, 20, 4, 9, true, 9) = 1
            addPrint(0, 15, 5, 6, false, 3) = 2
            """;

    public static void main(String[] args) {
        writeTrack();
        writeRow();
        outputAt();
        Runs.end();
    }

    private static void writeTrack() {
        Runs.run("50 feet, doubts and errors in time order", BEACH + """
                writeTrack(0) = 4
                output = LRL!
                doubtToes(0) = 1
                doubtToes(1) = 1
                doubtToes(1) = 2
                writeTrack(0) = 6
                output = L?RL?!
                swapFoot(2) = true
                writeTrack(0) = 7
                output = L?L!L?!
                swapFoot(2) = false
                correctHeel(1, 4, 8) = 1
                writeTrack(0) = 6
                output = L?RL?!
                addPrint(0, 9, 9, 9, true, 9) = 3
                swapFoot(3) = false
                writeTrack(0) = 8
                output = RL?!RL?!
                """);
        Runs.run("50 each kind of error alone", """
                addTrack(1) = 0
                addPrint(0, 10, 4, 5, true, 3) = 0
                addPrint(0, 11, 4, 7, false, 3) = 1
                addPrint(0, 12, 4, 8, false, 3) = 2
                addPrint(0, 13, 4, 9, true, 7) = 3
                writeTrack(0) = 7
                output = LR!R!L!
                """);
        Runs.run("50 a track without prints empties the output", BEACH + """
                writeTrack(0) = 4
                writeTrack(1) = 0
                outputAt(0) = throws.IndexOutOfBoundsException
                writeTrack(0) = 4
                writeTrack(2) = throws.IndexOutOfBoundsException
                output = LRL!
                """);
        Runs.run("50 thirty prints with all signs", "addTrack(1) = 0\n"
                + Runs.each(0, 9, "addPrint(0, N, 0, N, true, 1) = N")
                + Runs.each(0, 9, "addPrint(0, 1N, 1, N, true, 9) = 1N")
                + Runs.each(0, 9, "addPrint(0, 2N, 2, N, true, 1) = 2N")
                + Runs.each(0, 29, "doubtToes(N) = 1") + """
                writeTrack(0) = 89
                """ + "output = L?" + "L?!".repeat(29));
    }

    private static void writeRow() {
        Runs.run("51 a row with prints", BEACH + """
                writeRow(4) = 20
                output = .....0...1..........
                writeRow(5) = 20
                output = ......2.............
                writeRow(9) = 20
                output = ....................
                writeRow(0) = 20
                output = ....................
                setTide(5) = 2
                writeRow(4) = 20
                output = ~~~~~~~~~~~~~~~~~~~~
                writeRow(5) = 20
                output = ......2.............
                writeRow(-1) = throws.IndexOutOfBoundsException
                writeRow(10) = throws.IndexOutOfBoundsException
                writeRow(2147483647) = throws.IndexOutOfBoundsException
                output = ......2.............
                """);
        Runs.run("51 the last digit of the id", "addTrack(3) = 0\n"
                + Runs.each(0, 19, "addPrint(0, N, 7, N, true, 3) = N") + """
                writeRow(7) = 20
                output = 01234567890123456789
                """);
    }

    private static void outputAt() {
        Runs.run("52 empty at first, then what was written last", BEACH + """
                outputAt(0) = throws.IndexOutOfBoundsException
                outputAt(-1) = throws.IndexOutOfBoundsException
                writeRow(4) = 20
                outputAt(0) = .
                outputAt(5) = 0
                outputAt(19) = .
                outputAt(20) = throws.IndexOutOfBoundsException
                outputAt(-1) = throws.IndexOutOfBoundsException
                outputAt(2147483647) = throws.IndexOutOfBoundsException
                outputAt(-2147483648) = throws.IndexOutOfBoundsException
                writeTrack(0) = 4
                outputAt(3) = !
                outputAt(4) = throws.IndexOutOfBoundsException
                outputAt(5) = throws.IndexOutOfBoundsException
                """);
        Runs.run("52 undo and the snapshot leave the output", BEACH + """
                saveSnapshot() = 3
                writeTrack(0) = 4
                undo() = 4
                output = LRL!
                restoreSnapshot() = 3
                output = LRL!
                removeTrack(0) = 3
                output = LRL!
                """);
    }
}
