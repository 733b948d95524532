/** Promises 40 to 49: what is asked of the whole beach. */
public final class BeachTest {
    private static final String BEACH = """
            addTrack(3) = 0
            addTrack(9) = 1
            addPrint(0, 10, 4, 5, true, 3) = 0
            addPrint(0, 20, 4, 9, true, 9) = 1
            addPrint(0, 15, 0, 0, false, 3) = 2
            addPrint(1, 12, 9, 19, false, 4) = 3
            """;

    public static void main(String[] args) {
        printIn();
        printsInRow();
        tideLevel();
        erasedBy();
        counts();
        erasedPrints();
        correctedHeels();
        lateShare();
        isConsistent();
        Runs.end();
    }

    private static void printIn() {
        Runs.run("40 the print in a cell", BEACH + """
                printIn(4, 5) = 0
                printIn(4, 9) = 1
                printIn(0, 0) = 2
                printIn(9, 19) = 3
                printIn(5, 4) = throws.NoSuchElementException
                printIn(-1, 0) = throws.IndexOutOfBoundsException
                printIn(10, 0) = throws.IndexOutOfBoundsException
                printIn(0, -1) = throws.IndexOutOfBoundsException
                printIn(0, 20) = throws.IndexOutOfBoundsException
                printIn(2147483647, 0) = throws.IndexOutOfBoundsException
                correctHeel(0, 4, 6) = 1
                printIn(4, 6) = 0
                printIn(4, 5) = throws.NoSuchElementException
                setTide(1) = 1
                printIn(0, 0) = throws.NoSuchElementException
                """);
    }

    private static void printsInRow() {
        Runs.run("41 the prints in a row", BEACH + """
                printsInRow(4) = 2
                printsInRow(0) = 1
                printsInRow(9) = 1
                printsInRow(5) = 0
                printsInRow(3) = 0
                printsInRow(8) = 0
                printsInRow(-1) = throws.IndexOutOfBoundsException
                printsInRow(10) = throws.IndexOutOfBoundsException
                printsInRow(2147483647) = throws.IndexOutOfBoundsException
                setTide(1) = 1
                printsInRow(0) = 0
                removePrint(0) = 0
                printsInRow(4) = 1
                """);
    }

    private static void tideLevel() {
        Runs.run("42 the level", """
                tideLevel() = 0
                setTide(8) = 0
                tideLevel() = 8
                setTide(9) = throws.IllegalArgumentException
                tideLevel() = 8
                setTide(3) = 0
                tideLevel() = 3
                """);
    }

    private static void erasedBy() {
        Runs.run("43 what a tide would erase", BEACH + """
                erasedBy(0) = 0
                erasedBy(1) = 1
                erasedBy(4) = 1
                erasedBy(5) = 3
                erasedBy(8) = 3
                erasedBy(-1) = throws.IllegalArgumentException
                erasedBy(9) = throws.IllegalArgumentException
                erasedBy(2147483647) = throws.IllegalArgumentException
                totalPrints() = 4
                setTide(2) = 1
                erasedBy(2) = 0
                erasedBy(5) = 2
                erasedBy(1) = 0
                rejectionReason() = throws.NoSuchElementException
                """);
    }

    private static void counts() {
        Runs.run("44 and 45 tracks and prints that exist", BEACH + """
                trackCount() = 2
                totalPrints() = 4
                removePrint(2) = 0
                totalPrints() = 3
                setTide(5) = 2
                totalPrints() = 1
                trackCount() = 2
                removeTrack(0) = 0
                trackCount() = 1
                removeTrack(1) = 1
                trackCount() = 0
                totalPrints() = 0
                """);
    }

    private static void erasedPrints() {
        Runs.run("46 erased by the tide alone", BEACH + """
                erasedPrints() = 0
                removePrint(3) = 1
                erasedPrints() = 0
                setTide(1) = 1
                erasedPrints() = 1
                setTide(5) = 2
                erasedPrints() = 3
                undo() = 7
                erasedPrints() = 1
                removeTrack(0) = 2
                erasedPrints() = 1
                type W0;W8;W7
                execute() = 3
                erasedPrints() = 1
                addPrint(1, 1, 7, 7, true, 1) = 4
                type W8
                execute() = 1
                erasedPrints() = 2
                """);
    }

    private static void correctedHeels() {
        Runs.run("47 corrected by a call or a command", BEACH + """
                correctHeel(0, 4, 6) = 1
                correctedHeels() = 1
                correctHeel(0, 4, 6) = throws.UnsupportedOperationException
                correctHeel(9, 4, 6) = throws.IndexOutOfBoundsException
                correctedHeels() = 1
                type H0:4,7;H1:4,8
                execute() = 2
                correctedHeels() = 3
                removePrint(0) = 0
                correctedHeels() = 3
                type H1:4,7;H1:4,7
                execute() = throws.UnsupportedOperationException
                correctedHeels() = 3
                undo() = 7
                undo() = 6
                correctedHeels() = 1
                """);
    }

    private static void lateShare() {
        Runs.run("48 the late prints among all", """
                lateShare() = throws.ArithmeticException
                addTrack(3) = 0
                lateShare() = throws.ArithmeticException
                addPrint(0, 10, 4, 5, true, 3) = 0
                lateShare() = 0.0
                addPrint(0, 8, 4, 6, true, 3) = 1
                lateShare() = 0.5
                addPrint(0, 12, 4, 7, true, 3) = 2
                lateShare() = 0.33333334
                addPrint(0, 11, 4, 8, true, 3) = 3
                addPrint(0, 7, 4, 9, true, 3) = 4
                lateShare() = 0.6
                removePrint(0) = 0
                removePrint(2) = 0
                lateShare() = 1.0
                setTide(8) = 3
                lateShare() = throws.ArithmeticException
                """);
    }

    private static void isConsistent() {
        Runs.run("49 the data agree after every kind of change", BEACH + """
                isConsistent() = true
                correctHeel(0, 4, 6) = 1
                isConsistent() = true
                setTide(4) = 1
                isConsistent() = true
                undo() = 7
                isConsistent() = true
                removePrint(1) = 0
                isConsistent() = true
                saveSnapshot() = 3
                removeTrack(0) = 2
                isConsistent() = true
                restoreSnapshot() = 3
                isConsistent() = true
                type P0@14:3,3L9;H2:1,1;W1;F0;D0
                execute() = 5
                isConsistent() = true
                """);
    }
}
