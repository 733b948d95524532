/** Promises 1 to 10: a new object, and the changes of tracks, prints and the tide. */
public final class ChangesTest {
    public static void main(String[] args) {
        newObject();
        addTrack();
        removeTrack();
        addPrint();
        addPrintRejections();
        addPrintExceptionsInOrder();
        removePrint();
        correctHeel();
        correctHeelRejections();
        swapFoot();
        doubtToes();
        confirmToes();
        setTide();
        setTideErases();
        Runs.end();
    }

    private static void newObject() {
        Runs.run("1 a new object is empty", """
                trackCount() = 0
                totalPrints() = 0
                tideLevel() = 0
                erasedPrints() = 0
                correctedHeels() = 0
                undoCount() = 0
                isConsistent() = true
                printsInRow(0) = 0
                trackByErrors(0) = throws.NoSuchElementException
                printByDoubts(0) = throws.NoSuchElementException
                lateShare() = throws.ArithmeticException
                outputAt(0) = throws.IndexOutOfBoundsException
                syntaxErrorOffset() = throws.NoSuchElementException
                rejectionReason() = throws.NoSuchElementException
                undo() = throws.IllegalStateException
                restoreSnapshot() = throws.IllegalStateException
                """);
    }

    private static void addTrack() {
        Runs.run("2 the ids go up by one", """
                addTrack(1) = 0
                addTrack(9) = 1
                removeTrack(1) = 0
                addTrack(5) = 2
                removeTrack(0) = 0
                addTrack(5) = 3
                trackCount() = 2
                maxStride(2) = 5
                printCount(3) = 0
                """);
        Runs.run("2 the maximum stride is 1 to 9", """
                addTrack(0) = throws.IllegalArgumentException
                addTrack(10) = throws.IllegalArgumentException
                addTrack(-1) = throws.IllegalArgumentException
                addTrack(-2147483648) = throws.IllegalArgumentException
                addTrack(2147483647) = throws.IllegalArgumentException
                trackCount() = 0
                rejectionReason() = throws.NoSuchElementException
                addTrack(1) = 0
                """);
        Runs.run("2 six tracks are the limit, of those that exist", Runs.each(0, 5, """
                addTrack(3) = N
                """) + """
                addTrack(3) = throws.UnsupportedOperationException
                rejectionReason() = 1
                rejectionDetail() = 6
                causeReason() = throws.NoSuchElementException
                addTrack(0) = throws.IllegalArgumentException
                trackCount() = 6
                undoCount() = 6
                removeTrack(2) = 0
                addTrack(3) = 6
                addTrack(3) = throws.UnsupportedOperationException
                trackCount() = 6
                """);
    }

    private static void removeTrack() {
        Runs.run("3 the prints go with their track, and do not count as erased", """
                addTrack(3) = 0
                addTrack(3) = 1
                addPrint(0, 10, 4, 5, true, 3) = 0
                addPrint(1, 10, 4, 6, true, 3) = 1
                addPrint(0, 11, 4, 7, true, 3) = 2
                removeTrack(0) = 2
                trackCount() = 1
                totalPrints() = 1
                erasedPrints() = 0
                rowOf(0) = throws.IndexOutOfBoundsException
                rowOf(1) = 4
                rowOf(2) = throws.IndexOutOfBoundsException
                printIn(4, 5) = throws.NoSuchElementException
                removeTrack(0) = throws.IndexOutOfBoundsException
                removeTrack(1) = 1
                trackCount() = 0
                """);
        Runs.run("3 ids that no track has", """
                removeTrack(0) = throws.IndexOutOfBoundsException
                removeTrack(-1) = throws.IndexOutOfBoundsException
                addTrack(3) = 0
                removeTrack(1) = throws.IndexOutOfBoundsException
                removeTrack(-1) = throws.IndexOutOfBoundsException
                removeTrack(2147483647) = throws.IndexOutOfBoundsException
                undoCount() = 1
                removeTrack(0) = 0
                undoCount() = 2
                """);
    }

    private static void addPrint() {
        Runs.run("4 a print has what it was given", """
                addTrack(3) = 0
                addTrack(4) = 1
                addPrint(1, 999, 9, 19, false, 9) = 0
                addPrint(0, 0, 0, 0, true, 1) = 1
                trackOf(0) = 1
                timeOf(0) = 999
                rowOf(0) = 9
                columnOf(0) = 19
                isLeft(0) = false
                depthOf(0) = 9
                doubtsOf(0) = 0
                isLate(0) = false
                trackOf(1) = 0
                timeOf(1) = 0
                rowOf(1) = 0
                columnOf(1) = 0
                isLeft(1) = true
                depthOf(1) = 1
                removePrint(1) = 0
                addPrint(0, 0, 0, 0, true, 1) = 2
                """);
        Runs.run("4 two tracks may share a time", """
                addTrack(3) = 0
                addTrack(3) = 1
                addPrint(0, 7, 1, 1, true, 3) = 0
                addPrint(1, 7, 2, 2, true, 3) = 1
                """);
        Runs.run("4 the place of a gone print is as new", """
                addTrack(3) = 0
                addPrint(0, 9, 1, 1, true, 3) = 0
                addPrint(0, 7, 1, 2, true, 3) = 1
                doubtToes(1) = 1
                isLate(1) = true
                removePrint(1) = 0
                addPrint(0, 12, 1, 2, true, 3) = 2
                doubtsOf(2) = 0
                isLate(2) = false
                """);
    }

    private static void addPrintRejections() {
        Runs.run("4 a time of the track is taken, a cell is taken", """
                addTrack(3) = 0
                addTrack(3) = 1
                addPrint(0, 9, 1, 1, true, 3) = 0
                addPrint(1, 8, 1, 2, true, 3) = 1
                addPrint(1, 8, 3, 3, true, 3) = throws.UnsupportedOperationException
                rejectionReason() = 3
                rejectionDetail() = 1
                addPrint(1, 10, 1, 1, true, 3) = throws.UnsupportedOperationException
                rejectionReason() = 5
                rejectionDetail() = 0
                totalPrints() = 2
                undoCount() = 4
                """);
        Runs.run("4 a row is under water", """
                addTrack(3) = 0
                setTide(4) = 0
                addPrint(0, 9, 3, 1, true, 3) = throws.UnsupportedOperationException
                rejectionReason() = 4
                rejectionDetail() = 4
                addPrint(0, 9, 4, 1, true, 3) = 0
                """);
        String thirtyPrints = "addTrack(3) = 0\n"
                + Runs.each(0, 19, "addPrint(0, N, 5, N, true, 3) = N")
                + Runs.each(0, 9, "addPrint(0, 10N, 6, N, true, 3) = 2N");
        Runs.run("4 thirty prints are the limit, of those that exist", thirtyPrints + """
                totalPrints() = 30
                addPrint(0, 999, 7, 0, true, 3) = throws.UnsupportedOperationException
                rejectionReason() = 2
                rejectionDetail() = 30
                removePrint(29) = 0
                addPrint(0, 999, 7, 0, true, 3) = 30
                addPrint(0, 998, 7, 1, true, 3) = throws.UnsupportedOperationException
                setTide(6) = 20
                addPrint(0, 998, 7, 1, true, 3) = 31
                totalPrints() = 11
                """);
        Runs.run("4 the first reason that applies", thirtyPrints + """
                addPrint(0, 0, 5, 0, true, 3) = throws.UnsupportedOperationException
                rejectionReason() = 2
                setTide(6) = 20
                addPrint(0, 100, 5, 0, true, 3) = throws.UnsupportedOperationException
                rejectionReason() = 3
                rejectionDetail() = 20
                addPrint(0, 101, 6, 1, true, 3) = throws.UnsupportedOperationException
                rejectionReason() = 3
                rejectionDetail() = 21
                addPrint(0, 500, 5, 0, true, 3) = throws.UnsupportedOperationException
                rejectionReason() = 4
                addPrint(0, 500, 6, 0, true, 3) = throws.UnsupportedOperationException
                rejectionReason() = 5
                rejectionDetail() = 20
                """);
    }

    private static void addPrintExceptionsInOrder() {
        Runs.run("4 tracks and cells that are not, times and depths out of range", """
                addPrint(0, 5, 5, 5, true, 5) = throws.IndexOutOfBoundsException
                addPrint(0, -1, 5, 5, true, 0) = throws.IndexOutOfBoundsException
                addTrack(3) = 0
                addPrint(-1, 5, 5, 5, true, 5) = throws.IndexOutOfBoundsException
                addPrint(1, 5, 5, 5, true, 5) = throws.IndexOutOfBoundsException
                addPrint(0, 5, -1, 5, true, 5) = throws.IndexOutOfBoundsException
                addPrint(0, 5, 10, 5, true, 5) = throws.IndexOutOfBoundsException
                addPrint(0, 5, 5, -1, true, 5) = throws.IndexOutOfBoundsException
                addPrint(0, 5, 5, 20, true, 5) = throws.IndexOutOfBoundsException
                addPrint(0, 5, 2147483647, -2147483648, true, 5) = throws.IndexOutOfBoundsException
                addPrint(0, 1000, 10, 5, true, 5) = throws.IndexOutOfBoundsException
                addPrint(0, 5, 5, 20, true, 10) = throws.IndexOutOfBoundsException
                addPrint(0, -1, 5, 5, true, 5) = throws.IllegalArgumentException
                addPrint(0, 1000, 5, 5, true, 5) = throws.IllegalArgumentException
                addPrint(0, 5, 5, 5, true, 0) = throws.IllegalArgumentException
                addPrint(0, 5, 5, 5, true, 10) = throws.IllegalArgumentException
                addPrint(0, 5, 5, 5, true, -5) = throws.IllegalArgumentException
                totalPrints() = 0
                rejectionReason() = throws.NoSuchElementException
                addPrint(0, 5, 5, 5, true, 5) = 0
                addPrint(0, 5, 5, 5, true, 10) = throws.IllegalArgumentException
                addPrint(0, -1, 5, 5, true, 5) = throws.IllegalArgumentException
                rejectionReason() = throws.NoSuchElementException
                """);
    }

    private static void removePrint() {
        Runs.run("5 a print goes, its neighbours meet", """
                addTrack(3) = 0
                addTrack(3) = 1
                addPrint(1, 1, 4, 5, true, 3) = 0
                addPrint(1, 2, 4, 6, true, 3) = 1
                addPrint(1, 3, 4, 7, true, 3) = 2
                removePrint(1) = 1
                nextPrint(0) = 2
                previousPrint(2) = 0
                printIn(4, 6) = throws.NoSuchElementException
                erasedPrints() = 0
                removePrint(1) = throws.IndexOutOfBoundsException
                removePrint(3) = throws.IndexOutOfBoundsException
                removePrint(-1) = throws.IndexOutOfBoundsException
                totalPrints() = 2
                addPrint(1, 2, 4, 6, true, 3) = 3
                undoCount() = 7
                """);
    }

    private static void correctHeel() {
        Runs.run("6 one or two cells far", """
                addTrack(3) = 0
                addPrint(0, 1, 4, 5, true, 3) = 0
                correctHeel(0, 4, 6) = 1
                columnOf(0) = 6
                correctHeel(0, 5, 7) = 2
                rowOf(0) = 5
                columnOf(0) = 7
                printIn(5, 7) = 0
                printIn(4, 5) = throws.NoSuchElementException
                correctHeel(0, 3, 7) = 2
                correctHeel(0, 3, 5) = 2
                correctedHeels() = 4
                undoCount() = 6
                """);
        Runs.run("6 prints and cells that are not", """
                correctHeel(0, 4, 5) = throws.IndexOutOfBoundsException
                addTrack(3) = 0
                addPrint(0, 1, 0, 0, true, 3) = 0
                correctHeel(1, 0, 1) = throws.IndexOutOfBoundsException
                correctHeel(-1, 0, 1) = throws.IndexOutOfBoundsException
                correctHeel(0, -1, 0) = throws.IndexOutOfBoundsException
                correctHeel(0, 0, -1) = throws.IndexOutOfBoundsException
                correctHeel(0, 10, 0) = throws.IndexOutOfBoundsException
                correctHeel(0, 0, 20) = throws.IndexOutOfBoundsException
                correctHeel(0, -2147483648, 2147483647) = throws.IndexOutOfBoundsException
                rejectionReason() = throws.NoSuchElementException
                correctedHeels() = 0
                undoCount() = 2
                """);
    }

    private static void correctHeelRejections() {
        Runs.run("6 too far, under water, taken, in this order", """
                addTrack(3) = 0
                addPrint(0, 1, 4, 5, true, 3) = 0
                addPrint(0, 2, 4, 7, true, 3) = 1
                addPrint(0, 3, 4, 8, true, 3) = 2
                correctHeel(0, 4, 5) = throws.UnsupportedOperationException
                rejectionReason() = 6
                rejectionDetail() = 0
                correctHeel(0, 4, 8) = throws.UnsupportedOperationException
                rejectionReason() = 6
                rejectionDetail() = 3
                correctHeel(0, 9, 19) = throws.UnsupportedOperationException
                rejectionDetail() = 19
                correctHeel(0, 4, 7) = throws.UnsupportedOperationException
                rejectionReason() = 5
                rejectionDetail() = 1
                setTide(4) = 0
                correctHeel(0, 3, 5) = throws.UnsupportedOperationException
                rejectionReason() = 4
                rejectionDetail() = 4
                correctHeel(0, 1, 5) = throws.UnsupportedOperationException
                rejectionReason() = 6
                rejectionDetail() = 3
                correctedHeels() = 0
                columnOf(0) = 5
                undoCount() = 5
                """);
    }

    private static void swapFoot() {
        Runs.run("7 left and right", """
                swapFoot(0) = throws.IndexOutOfBoundsException
                addTrack(3) = 0
                addPrint(0, 1, 4, 5, true, 3) = 0
                swapFoot(0) = false
                isLeft(0) = false
                swapFoot(0) = true
                isLeft(0) = true
                swapFoot(1) = throws.IndexOutOfBoundsException
                swapFoot(-1) = throws.IndexOutOfBoundsException
                undoCount() = 4
                """);
    }

    private static void doubtToes() {
        Runs.run("8 three doubts at most", """
                doubtToes(0) = throws.IndexOutOfBoundsException
                addTrack(3) = 0
                addPrint(0, 1, 4, 5, true, 3) = 0
                addPrint(0, 2, 4, 6, true, 3) = 1
                doubtToes(0) = 1
                doubtToes(0) = 2
                doubtToes(0) = 3
                doubtToes(0) = throws.UnsupportedOperationException
                rejectionReason() = 7
                rejectionDetail() = 3
                doubtsOf(0) = 3
                doubtsOf(1) = 0
                doubtToes(2) = throws.IndexOutOfBoundsException
                doubtToes(-1) = throws.IndexOutOfBoundsException
                undoCount() = 6
                """);
    }

    private static void confirmToes() {
        Runs.run("9 all doubts go", """
                confirmToes(0) = throws.IndexOutOfBoundsException
                addTrack(3) = 0
                addPrint(0, 1, 4, 5, true, 3) = 0
                doubtToes(0) = 1
                doubtToes(0) = 2
                confirmToes(0) = 2
                doubtsOf(0) = 0
                confirmToes(0) = throws.UnsupportedOperationException
                rejectionReason() = 8
                rejectionDetail() = 0
                undoCount() = 5
                doubtToes(0) = 1
                confirmToes(0) = 1
                confirmToes(1) = throws.IndexOutOfBoundsException
                confirmToes(-1) = throws.IndexOutOfBoundsException
                """);
    }

    private static void setTide() {
        Runs.run("10 the level is 0 to 8 and another than before", """
                setTide(-1) = throws.IllegalArgumentException
                setTide(9) = throws.IllegalArgumentException
                setTide(-2147483648) = throws.IllegalArgumentException
                setTide(0) = throws.UnsupportedOperationException
                rejectionReason() = 9
                rejectionDetail() = 0
                undoCount() = 0
                setTide(8) = 0
                tideLevel() = 8
                setTide(8) = throws.UnsupportedOperationException
                rejectionDetail() = 8
                setTide(0) = 0
                tideLevel() = 0
                undoCount() = 2
                """);
    }

    private static void setTideErases() {
        Runs.run("10 the rows below the level are erased", """
                addTrack(3) = 0
                addTrack(3) = 1
                addPrint(0, 1, 0, 5, true, 3) = 0
                addPrint(1, 2, 2, 6, true, 3) = 1
                addPrint(0, 3, 3, 6, true, 3) = 2
                addPrint(0, 4, 8, 6, true, 3) = 3
                setTide(2) = 1
                rowOf(0) = throws.IndexOutOfBoundsException
                rowOf(1) = 2
                setTide(1) = 0
                setTide(3) = 1
                rowOf(1) = throws.IndexOutOfBoundsException
                rowOf(2) = 3
                setTide(8) = 1
                rowOf(3) = 8
                erasedPrints() = 3
                totalPrints() = 1
                printAt(0, 0) = 3
                trackCount() = 2
                setTide(0) = 0
                printIn(0, 5) = throws.NoSuchElementException
                addPrint(0, 1, 0, 5, true, 3) = 4
                """);
    }
}
