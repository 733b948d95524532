/** Promises 26 to 34: what is asked of one track. */
public final class OneTrackTest {
    /** Track 0 has the prints 0, 2 and 1 in time order, track 1 has one print, track 2 none. */
    private static final String BEACH = """
            addTrack(3) = 0
            addTrack(9) = 1
            addTrack(1) = 2
            addPrint(0, 10, 4, 5, true, 3) = 0
            addPrint(0, 20, 4, 9, true, 9) = 1
            addPrint(0, 15, 5, 6, false, 3) = 2
            addPrint(1, 12, 6, 6, false, 4) = 3
            """;

    public static void main(String[] args) {
        maxStride();
        printCount();
        printAt();
        lengths();
        errors();
        duration();
        averageStride();
        noSuchTrack();
        Runs.end();
    }

    private static void maxStride() {
        Runs.run("26 the maximum stride", BEACH + """
                maxStride(0) = 3
                maxStride(1) = 9
                maxStride(2) = 1
                """);
    }

    private static void printCount() {
        Runs.run("27 the number of prints", BEACH + """
                printCount(0) = 3
                printCount(1) = 1
                printCount(2) = 0
                removePrint(0) = 0
                printCount(0) = 2
                setTide(5) = 1
                printCount(0) = 1
                printCount(1) = 1
                """);
        Runs.run("27 times at both ends count", """
                addTrack(3) = 0
                addPrint(0, 0, 4, 5, true, 3) = 0
                addPrint(0, 999, 4, 6, true, 3) = 1
                printCount(0) = 2
                """);
    }

    private static void printAt() {
        Runs.run("28 by position in time order", BEACH + """
                printAt(0, 0) = 0
                printAt(0, 1) = 2
                printAt(0, 2) = 1
                printAt(0, 3) = throws.NoSuchElementException
                printAt(0, -1) = throws.NoSuchElementException
                printAt(0, 2147483647) = throws.NoSuchElementException
                printAt(0, -2147483648) = throws.NoSuchElementException
                printAt(1, 0) = 3
                printAt(1, 1) = throws.NoSuchElementException
                printAt(2, 0) = throws.NoSuchElementException
                printAt(3, -1) = throws.IndexOutOfBoundsException
                """);
    }

    private static void lengths() {
        Runs.run("29 and 30 the length, in two ways", BEACH + """
                trackLength(0) = 6
                trackLengthAgain(0) = 6
                trackLength(1) = 0
                trackLengthAgain(1) = 0
                trackLength(2) = 0
                trackLengthAgain(2) = 0
                correctHeel(1, 3, 10) = 2
                trackLength(0) = 8
                trackLengthAgain(0) = 8
                addPrint(0, 1, 9, 0, true, 3) = 4
                trackLength(0) = 18
                trackLengthAgain(0) = 18
                """);
    }

    private static void errors() {
        Runs.run("31 and 32 the errors, in two ways", BEACH + """
                errorCount(0) = 2
                errorCountAgain(0) = 2
                errorCount(1) = 0
                errorCountAgain(1) = 0
                errorCount(2) = 0
                errorCountAgain(2) = 0
                swapFoot(2) = true
                errorCount(0) = 4
                errorCountAgain(0) = 4
                addPrint(0, 1, 9, 0, true, 9) = 4
                errorCount(0) = 7
                errorCountAgain(0) = 7
                addPrint(1, 13, 9, 19, false, 8) = 5
                errorCount(1) = 3
                errorCountAgain(1) = 3
                """);
    }

    private static void duration() {
        Runs.run("33 from the first to the last print", BEACH + """
                duration(0) = 10
                duration(1) = 0
                duration(2) = throws.NoSuchElementException
                addPrint(0, 999, 9, 0, true, 9) = 4
                addPrint(0, 0, 9, 1, true, 9) = 5
                duration(0) = 999
                """);
    }

    private static void averageStride() {
        Runs.run("34 the length divided by the strides", BEACH + """
                averageStride(0) = 3.0
                averageStride(1) = throws.ArithmeticException
                averageStride(2) = throws.ArithmeticException
                addPrint(0, 25, 4, 10, false, 9) = 4
                averageStride(0) = 2.3333333333333335
                addPrint(1, 15, 6, 6, false, 4) = throws.UnsupportedOperationException
                addPrint(1, 15, 6, 7, false, 4) = 5
                averageStride(1) = 1.0
                """);
    }

    private static void noSuchTrack() {
        String[] questions = {"maxStride(N)", "printCount(N)", "printAt(N, 0)", "printAt(N, -1)",
            "trackLength(N)", "trackLengthAgain(N)", "errorCount(N)", "errorCountAgain(N)",
            "duration(N)", "averageStride(N)", "writeTrack(N)"};
        for (String question : questions) {
            String fails = question + " = throws.IndexOutOfBoundsException\n";
            Runs.run("26 to 34, 50 no such track", fails.replace("N", "0")
                    + fails.replace("N", "-1") + """
                    addTrack(3) = 0
                    addTrack(4) = 1
                    removeTrack(0) = 0
                    """ + fails.replace("N", "0") + fails.replace("N", "2")
                    + fails.replace("N", "-1") + fails.replace("N", "2147483647")
                    + fails.replace("N", "-2147483648") + """
                    trackCount() = 1
                    rejectionReason() = throws.NoSuchElementException
                    """);
        }
    }
}
