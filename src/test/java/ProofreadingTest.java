/** Promises 35 to 39: suggestions, and the orders by errors and by doubts. */
public final class ProofreadingTest {
    /** The prints 0, 2 and 1 of track 0 in time order; print 1 has a stride and a depth error. */
    private static final String BEACH = """
            addTrack(3) = 0
            addTrack(1) = 1
            addPrint(0, 10, 4, 5, true, 3) = 0
            addPrint(0, 20, 4, 9, true, 9) = 1
            addPrint(0, 15, 5, 6, false, 3) = 2
            """;

    public static void main(String[] args) {
        errorsIfMoved();
        canMove();
        suggestCell();
        suggestedOrder();
        suggestedCellMustBeFree();
        argumentsThatAreNot();
        trackByErrors();
        printByDoubts();
        Runs.end();
    }

    private static void errorsIfMoved() {
        Runs.run("35 rejected or not, and nothing moves", BEACH + """
                errorsIfMoved(1, 4, 8) = 1
                errorsIfMoved(1, 4, 9) = 2
                errorsIfMoved(1, 9, 19) = 2
                errorsIfMoved(1, 5, 6) = 1
                errorsIfMoved(2, 0, 0) = 3
                errorsIfMoved(2, 4, 7) = 1
                setTide(4) = 0
                errorsIfMoved(2, 1, 6) = 3
                errorsIfMoved(0, 9, 19) = 3
                rowOf(2) = 5
                columnOf(2) = 6
                errorCount(0) = 2
                correctedHeels() = 0
                undoCount() = 6
                rejectionReason() = throws.NoSuchElementException
                """);
    }

    private static void canMove() {
        Runs.run("36 whether correctHeel would not be rejected", BEACH + """
                canMove(1, 4, 9) = false
                canMove(1, 4, 8) = true
                canMove(1, 4, 7) = true
                canMove(1, 4, 6) = false
                canMove(1, 5, 10) = true
                canMove(1, 2, 9) = true
                canMove(1, 6, 10) = false
                canMove(0, 5, 6) = false
                canMove(0, 4, 7) = true
                setTide(4) = 0
                canMove(1, 3, 9) = false
                canMove(1, 4, 8) = true
                rejectionReason() = throws.NoSuchElementException
                columnOf(1) = 9
                """);
    }

    private static void suggestCell() {
        Runs.run("37 the fewest errors, then the smallest distance", BEACH + """
                suggestCell(1) = 88
                suggestCell(2) = 86
                suggestCell(0) = 85
                rejectionReason() = throws.NoSuchElementException
                rowOf(1) = 4
                columnOf(1) = 9
                undoCount() = 5
                correctHeel(2, 6, 6) = 1
                suggestCell(1) = 87
                """);
    }

    private static void suggestedOrder() {
        Runs.run("37 of equal cells the lowest row, then the lowest column", """
                addTrack(1) = 0
                addPrint(0, 10, 4, 5, true, 3) = 0
                addPrint(0, 20, 6, 7, false, 3) = 1
                suggestCell(1) = 127
                correctHeel(1, 5, 7) = 1
                suggestCell(1) = 86
                correctHeel(1, 6, 7) = 1
                correctHeel(1, 6, 6) = 1
                suggestCell(1) = 86
                """);
        Runs.run("37 in each direction", """
                addTrack(3) = 0
                addPrint(0, 10, 5, 10, true, 3) = 0
                addPrint(0, 20, 5, 15, false, 3) = 1
                suggestCell(1) = 113
                correctHeel(1, 6, 14) = 2
                suggestCell(1) = 113
                suggestCell(0) = 112
                removePrint(1) = 0
                addPrint(0, 20, 5, 5, false, 3) = 2
                suggestCell(2) = 107
                suggestCell(0) = 108
                removePrint(2) = 0
                addPrint(0, 20, 0, 10, false, 3) = 3
                suggestCell(3) = 50
                suggestCell(0) = 70
                removePrint(3) = 0
                addPrint(0, 20, 9, 11, false, 3) = 4
                suggestCell(4) = 151
                suggestCell(0) = 131
                """);
        Runs.run("37 its own cell wins if no other is better", """
                addTrack(9) = 0
                addPrint(0, 10, 0, 0, true, 3) = 0
                suggestCell(0) = 0
                addPrint(0, 20, 9, 19, false, 3) = 1
                suggestCell(1) = 199
                errorCount(0) = 1
                """);
        Runs.run("37 a stride of two from both neighbours", """
                addTrack(2) = 0
                addPrint(0, 10, 5, 5, true, 3) = 0
                addPrint(0, 20, 5, 8, false, 3) = 1
                addPrint(0, 30, 5, 5, true, 3) = throws.UnsupportedOperationException
                addPrint(0, 30, 6, 6, true, 3) = 2
                errorCount(0) = 2
                suggestCell(1) = 107
                correctHeel(1, 5, 10) = 2
                suggestCell(1) = 110
                """);
    }

    /** Water never changes a suggestion: from dry rows, a way up shortens no stride. */
    private static void suggestedCellMustBeFree() {
        Runs.run("37 not a taken cell", """
                addTrack(3) = 0
                addTrack(3) = 1
                addPrint(0, 10, 5, 5, true, 3) = 0
                addPrint(0, 20, 5, 9, false, 3) = 1
                suggestCell(1) = 108
                addPrint(1, 10, 5, 8, true, 3) = 2
                suggestCell(1) = 107
                setTide(5) = 0
                suggestCell(1) = 107
                addPrint(1, 20, 5, 7, true, 3) = 3
                suggestCell(1) = 109
                """);
    }

    private static void argumentsThatAreNot() {
        for (String question : new String[] {"errorsIfMoved", "canMove"}) {
            Runs.run("35 and 36 no such print or cell", """
                    ask(0, 0, 0) = throws.IndexOutOfBoundsException
                    addTrack(3) = 0
                    addPrint(0, 10, 0, 0, true, 3) = 0
                    ask(1, 0, 0) = throws.IndexOutOfBoundsException
                    ask(-1, 0, 0) = throws.IndexOutOfBoundsException
                    ask(0, -1, 0) = throws.IndexOutOfBoundsException
                    ask(0, 10, 0) = throws.IndexOutOfBoundsException
                    ask(0, 0, -1) = throws.IndexOutOfBoundsException
                    ask(0, 0, 20) = throws.IndexOutOfBoundsException
                    ask(0, -2147483648, 0) = throws.IndexOutOfBoundsException
                    ask(0, 0, 2147483647) = throws.IndexOutOfBoundsException
                    """.replace("ask", question));
        }
        Runs.run("37 no such print", """
                suggestCell(0) = throws.IndexOutOfBoundsException
                addTrack(3) = 0
                addPrint(0, 10, 0, 0, true, 3) = 0
                suggestCell(1) = throws.IndexOutOfBoundsException
                suggestCell(-1) = throws.IndexOutOfBoundsException
                removePrint(0) = 0
                suggestCell(0) = throws.IndexOutOfBoundsException
                """);
    }

    private static void trackByErrors() {
        Runs.run("38 more errors, then more prints, then the lower id", """
                trackByErrors(0) = throws.NoSuchElementException
                addTrack(9) = 0
                addTrack(9) = 1
                addTrack(9) = 2
                addTrack(9) = 3
                trackByErrors(0) = 0
                trackByErrors(3) = 3
                trackByErrors(4) = throws.NoSuchElementException
                trackByErrors(-1) = throws.NoSuchElementException
                trackByErrors(2147483647) = throws.NoSuchElementException
                addPrint(1, 1, 4, 5, true, 3) = 0
                trackByErrors(0) = 1
                trackByErrors(1) = 0
                addPrint(2, 1, 5, 5, true, 3) = 1
                addPrint(2, 2, 5, 6, false, 3) = 2
                trackByErrors(0) = 2
                trackByErrors(1) = 1
                addPrint(3, 1, 6, 5, true, 3) = 3
                addPrint(3, 2, 6, 6, true, 3) = 4
                trackByErrors(0) = 3
                trackByErrors(1) = 2
                trackByErrors(2) = 1
                trackByErrors(3) = 0
                addPrint(1, 2, 4, 6, true, 9) = 5
                trackByErrors(0) = 1
                trackByErrors(1) = 3
                removeTrack(3) = 2
                trackByErrors(1) = 2
                trackByErrors(2) = 0
                trackByErrors(3) = throws.NoSuchElementException
                """);
    }

    private static void printByDoubts() {
        Runs.run("39 more doubts, then the smaller time, then the lower id", """
                printByDoubts(0) = throws.NoSuchElementException
                addTrack(9) = 0
                addTrack(9) = 1
                addPrint(0, 9, 4, 5, true, 3) = 0
                addPrint(0, 5, 4, 6, true, 3) = 1
                addPrint(1, 9, 4, 7, true, 3) = 2
                addPrint(1, 5, 4, 8, true, 3) = 3
                printByDoubts(0) = 1
                printByDoubts(1) = 3
                printByDoubts(2) = 0
                printByDoubts(3) = 2
                printByDoubts(4) = throws.NoSuchElementException
                printByDoubts(-1) = throws.NoSuchElementException
                printByDoubts(-2147483648) = throws.NoSuchElementException
                doubtToes(2) = 1
                printByDoubts(0) = 2
                printByDoubts(1) = 1
                doubtToes(3) = 1
                printByDoubts(0) = 3
                printByDoubts(1) = 2
                doubtToes(0) = 1
                doubtToes(0) = 2
                printByDoubts(0) = 0
                printByDoubts(3) = 1
                removePrint(0) = 0
                printByDoubts(0) = 3
                printByDoubts(3) = throws.NoSuchElementException
                """);
    }
}
