/** Promises 56 to 63: rejections, undo and the snapshot. */
public final class HistoryTest {
    private static final String BEACH = """
            addTrack(3) = 0
            addPrint(0, 10, 4, 5, true, 3) = 0
            addPrint(0, 20, 4, 9, true, 9) = 1
            """;

    public static void main(String[] args) {
        latestRejection();
        causes();
        undoOfEachChange();
        undoInTurn();
        undoCount();
        whatIsNoChange();
        undoLeaves();
        snapshot();
        snapshotAndUndo();
        Runs.end();
    }

    private static void latestRejection() {
        Runs.run("56 and 57 the latest rejection stays", BEACH + """
                rejectionReason() = throws.NoSuchElementException
                rejectionDetail() = throws.NoSuchElementException
                confirmToes(0) = throws.UnsupportedOperationException
                rejectionReason() = 8
                rejectionDetail() = 0
                swapFoot(0) = false
                addTrack(0) = throws.IllegalArgumentException
                removePrint(7) = throws.IndexOutOfBoundsException
                canMove(0, 4, 9) = false
                undo() = 3
                saveSnapshot() = 2
                restoreSnapshot() = 2
                type T0
                execute() = throws.IllegalStateException
                type T
                execute() = throws.IllegalArgumentException
                rejectionReason() = 8
                rejectionDetail() = 0
                setTide(0) = throws.UnsupportedOperationException
                rejectionReason() = 9
                """);
    }

    private static void causes() {
        Runs.run("58 and 59 only COMMAND_REJECTED has a cause", BEACH + """
                causeReason() = throws.NoSuchElementException
                causeDetail() = throws.NoSuchElementException
                setTide(0) = throws.UnsupportedOperationException
                causeReason() = throws.NoSuchElementException
                causeDetail() = throws.NoSuchElementException
                type D0;H0:9,9
                execute() = throws.UnsupportedOperationException
                rejectionReason() = 10
                rejectionDetail() = 1
                causeReason() = 6
                causeDetail() = 9
                undo() = 2
                causeReason() = 6
                setTide(0) = throws.UnsupportedOperationException
                causeReason() = throws.NoSuchElementException
                causeDetail() = throws.NoSuchElementException
                """);
    }

    private static void undoOfEachChange() {
        Runs.run("60 addTrack gives its id back", """
                addTrack(3) = 0
                undo() = 0
                trackCount() = 0
                addTrack(4) = 0
                maxStride(0) = 4
                """);
        Runs.run("60 removeTrack", BEACH + """
                removeTrack(0) = 2
                undo() = 3
                trackCount() = 1
                printCount(0) = 2
                printIn(4, 9) = 1
                depthOf(1) = 9
                """);
        Runs.run("60 addPrint and removePrint", BEACH + """
                addPrint(0, 5, 5, 5, false, 4) = 2
                undo() = 3
                totalPrints() = 2
                printIn(5, 5) = throws.NoSuchElementException
                addPrint(0, 6, 6, 5, false, 4) = 2
                doubtToes(2) = 1
                removePrint(2) = 0
                undo() = 5
                isLate(2) = true
                doubtsOf(2) = 1
                timeOf(2) = 6
                rowOf(2) = 6
                isLeft(2) = false
                """);
        Runs.run("60 what was given to others meanwhile", BEACH + """
                saveSnapshot() = 2
                removeTrack(0) = 2
                addTrack(8) = 1
                addPrint(1, 11, 7, 15, false, 4) = 2
                addPrint(1, 9, 8, 19, false, 5) = 3
                isLate(3) = true
                undo() = 6
                undo() = 5
                undo() = 4
                undo() = 3
                maxStride(0) = 3
                timeOf(0) = 10
                depthOf(0) = 3
                isLeft(1) = true
                timeOf(1) = 20
                rowOf(1) = 4
                columnOf(1) = 9
                depthOf(1) = 9
                isLate(1) = false
                trackOf(1) = 0
                removeTrack(0) = 2
                addTrack(8) = 1
                addPrint(1, 11, 7, 15, false, 4) = 2
                doubtToes(2) = 1
                restoreSnapshot() = 2
                maxStride(0) = 3
                timeOf(0) = 10
                depthOf(0) = 3
                doubtsOf(0) = 0
                isLate(0) = false
                """);
        Runs.run("60 correctHeel, swapFoot, doubtToes and confirmToes", BEACH + """
                correctHeel(0, 5, 6) = 2
                undo() = 3
                rowOf(0) = 4
                columnOf(0) = 5
                correctedHeels() = 0
                swapFoot(0) = false
                undo() = 3
                isLeft(0) = true
                doubtToes(0) = 1
                doubtToes(0) = 2
                undo() = 4
                doubtsOf(0) = 1
                confirmToes(0) = 1
                undo() = 4
                doubtsOf(0) = 1
                """);
        Runs.run("60 setTide and execute", BEACH + """
                setTide(5) = 2
                undo() = 3
                tideLevel() = 0
                totalPrints() = 2
                erasedPrints() = 0
                type T1;W5
                execute() = 2
                undo() = 3
                trackCount() = 1
                totalPrints() = 2
                erasedPrints() = 0
                """);
    }

    private static void undoInTurn() {
        Runs.run("60 the latest 8 changes, the latest first", """
                undo() = throws.IllegalStateException
                setTide(1) = 0
                setTide(2) = 0
                setTide(3) = 0
                setTide(4) = 0
                setTide(5) = 0
                setTide(6) = 0
                setTide(7) = 0
                setTide(8) = 0
                setTide(0) = 0
                setTide(3) = 0
                undoCount() = 8
                undo() = 7
                tideLevel() = 0
                undo() = 6
                tideLevel() = 8
                undo() = 5
                tideLevel() = 7
                setTide(1) = 0
                undoCount() = 6
                undo() = 5
                tideLevel() = 7
                undo() = 4
                undo() = 3
                undo() = 2
                undo() = 1
                undo() = 0
                tideLevel() = 2
                undo() = throws.IllegalStateException
                tideLevel() = 2
                undoCount() = 0
                """);
    }

    private static void undoCount() {
        Runs.run("61 up to 8", "undoCount() = 0\n" + Runs.each(1, 8, """
                setTide(N) = 0
                undoCount() = N
                """) + """
                setTide(3) = 0
                undoCount() = 8
                undo() = 7
                undoCount() = 7
                """);
    }

    private static void whatIsNoChange() {
        Runs.run("60 and 61 rejections, exceptions and questions are no changes", BEACH + """
                setTide(0) = throws.UnsupportedOperationException
                addTrack(0) = throws.IllegalArgumentException
                swapFoot(9) = throws.IndexOutOfBoundsException
                suggestCell(1) = 88
                writeTrack(0) = 3
                writeRow(0) = 20
                saveSnapshot() = 2
                appendInput(T) = 1
                execute() = throws.IllegalArgumentException
                undoCount() = 3
                removeTrack(0) = 2
                undoCount() = 4
                addTrack(1) = 1
                removeTrack(1) = 0
                undoCount() = 6
                """);
    }

    private static void undoLeaves() {
        Runs.run("60 undo does not cover the snapshot", """
                addTrack(3) = 0
                saveSnapshot() = 0
                addTrack(4) = 1
                undo() = 1
                undo() = 0
                trackCount() = 0
                restoreSnapshot() = 0
                trackCount() = 1
                maxStride(0) = 3
                """);
    }

    private static void snapshot() {
        Runs.run("62 and 63 saved, restored and kept", BEACH + """
                restoreSnapshot() = throws.IllegalStateException
                undoCount() = 3
                saveSnapshot() = 2
                undoCount() = 3
                correctHeel(0, 4, 6) = 1
                doubtToes(1) = 1
                setTide(5) = 2
                addTrack(1) = 1
                addPrint(1, 1, 5, 5, true, 3) = 2
                restoreSnapshot() = 2
                undoCount() = 0
                undo() = throws.IllegalStateException
                trackCount() = 1
                totalPrints() = 2
                columnOf(0) = 5
                doubtsOf(1) = 0
                tideLevel() = 0
                erasedPrints() = 0
                correctedHeels() = 0
                addTrack(7) = 1
                addPrint(1, 1, 5, 5, true, 3) = 2
                undoCount() = 2
                restoreSnapshot() = 2
                trackCount() = 1
                removeTrack(0) = 2
                saveSnapshot() = 0
                addTrack(2) = 1
                restoreSnapshot() = 0
                trackCount() = 0
                addTrack(2) = 1
                """);
        Runs.run("62 and 63 a snapshot of an empty beach", """
                saveSnapshot() = 0
                addTrack(3) = 0
                restoreSnapshot() = 0
                trackCount() = 0
                restoreSnapshot() = 0
                """);
    }

    private static void snapshotAndUndo() {
        Runs.run("60 and 63 changes after a restored snapshot", BEACH + """
                saveSnapshot() = 2
                swapFoot(0) = false
                restoreSnapshot() = 2
                swapFoot(1) = false
                undo() = 0
                isLeft(0) = true
                isLeft(1) = true
                doubtToes(0) = 1
                restoreSnapshot() = 2
                doubtsOf(0) = 0
                """);
    }
}
