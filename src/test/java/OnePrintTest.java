/** Promises 11 to 25: what is asked of one print. */
public final class OnePrintTest {
    /** Print 0 is the first of track 0, then 2, then 1; print 3 is alone on track 1. */
    private static final String BEACH = """
            addTrack(3) = 0
            addTrack(9) = 1
            addPrint(0, 10, 4, 5, true, 3) = 0
            addPrint(0, 20, 4, 9, true, 9) = 1
            addPrint(0, 15, 5, 6, false, 3) = 2
            addPrint(1, 12, 6, 6, false, 4) = 3
            """;

    public static void main(String[] args) {
        ownData();
        confidence();
        isLate();
        neighbours();
        strides();
        strideErrors();
        footErrors();
        depthErrors();
        noSuchPrint();
        Runs.end();
    }

    private static void ownData() {
        Runs.run("11 to 17 the data of a print", BEACH + """
                trackOf(2) = 0
                trackOf(3) = 1
                timeOf(2) = 15
                timeOf(3) = 12
                rowOf(2) = 5
                rowOf(3) = 6
                columnOf(1) = 9
                columnOf(2) = 6
                isLeft(1) = true
                isLeft(2) = false
                depthOf(1) = 9
                depthOf(3) = 4
                doubtsOf(1) = 0
                doubtToes(1) = 1
                doubtToes(1) = 2
                doubtsOf(1) = 2
                doubtsOf(2) = 0
                doubtToes(1) = 3
                doubtsOf(1) = 3
                confirmToes(1) = 3
                doubtsOf(1) = 0
                """);
    }

    private static void confidence() {
        Runs.run("18 one divided by one and the doubts", BEACH + """
                confidence(0) = 1.0
                doubtToes(0) = 1
                confidence(0) = 0.5
                doubtToes(0) = 2
                confidence(0) = 0.3333333333333333
                doubtToes(0) = 3
                confidence(0) = 0.25
                confidence(1) = 1.0
                """);
    }

    private static void isLate() {
        Runs.run("19 late when added, and so it stays", BEACH + """
                isLate(0) = false
                isLate(1) = false
                isLate(2) = true
                isLate(3) = false
                removePrint(1) = 0
                isLate(2) = true
                isLate(0) = false
                addPrint(0, 14, 7, 7, true, 3) = 4
                isLate(4) = true
                isLate(0) = false
                """);
        Runs.run("19 a print that is gone makes none late", """
                addTrack(3) = 0
                addPrint(0, 10, 4, 5, true, 3) = 0
                removePrint(0) = 0
                addPrint(0, 5, 4, 5, true, 3) = 1
                isLate(1) = false
                addPrint(0, 4, 4, 6, true, 3) = 2
                isLate(2) = true
                """);
    }

    private static void neighbours() {
        Runs.run("20 and 21 neighbours in time order", BEACH + """
                previousPrint(0) = throws.NoSuchElementException
                previousPrint(2) = 0
                previousPrint(1) = 2
                nextPrint(0) = 2
                nextPrint(2) = 1
                nextPrint(1) = throws.NoSuchElementException
                previousPrint(3) = throws.NoSuchElementException
                nextPrint(3) = throws.NoSuchElementException
                removePrint(2) = 0
                previousPrint(1) = 0
                nextPrint(0) = 1
                """);
    }

    private static void strides() {
        Runs.run("22 the distance from the previous print", BEACH + """
                strideOf(0) = throws.NoSuchElementException
                strideOf(3) = throws.NoSuchElementException
                strideOf(2) = 2
                strideOf(1) = 4
                correctHeel(2, 3, 6) = 2
                strideOf(2) = 2
                strideOf(1) = 4
                removePrint(2) = 0
                strideOf(1) = 4
                """);
    }

    private static void strideErrors() {
        Runs.run("23 a stride over the maximum", BEACH + """
                hasStrideError(0) = false
                hasStrideError(2) = false
                hasStrideError(1) = true
                hasStrideError(3) = false
                correctHeel(1, 4, 8) = 1
                hasStrideError(1) = false
                correctHeel(1, 3, 8) = 1
                hasStrideError(1) = true
                addPrint(1, 13, 6, 16, true, 4) = 4
                hasStrideError(4) = true
                correctHeel(4, 6, 15) = 1
                hasStrideError(4) = false
                """);
    }

    private static void footErrors() {
        Runs.run("24 the same foot twice", BEACH + """
                hasFootError(0) = false
                hasFootError(2) = false
                hasFootError(1) = false
                hasFootError(3) = false
                swapFoot(2) = true
                hasFootError(0) = false
                hasFootError(2) = true
                hasFootError(1) = true
                swapFoot(1) = false
                hasFootError(1) = false
                swapFoot(2) = false
                hasFootError(1) = true
                """);
    }

    private static void depthErrors() {
        Runs.run("25 depths that differ by more than 3", BEACH + """
                hasDepthError(0) = false
                hasDepthError(2) = false
                hasDepthError(1) = true
                hasDepthError(3) = false
                addPrint(1, 13, 6, 7, true, 7) = 4
                hasDepthError(4) = false
                addPrint(1, 14, 6, 8, true, 3) = 5
                hasDepthError(5) = true
                addPrint(1, 15, 6, 9, true, 6) = 6
                hasDepthError(6) = false
                """);
    }

    private static void noSuchPrint() {
        String[] questions = {"trackOf", "timeOf", "rowOf", "columnOf", "isLeft", "depthOf",
            "doubtsOf", "confidence", "isLate", "previousPrint", "nextPrint", "strideOf",
            "hasStrideError", "hasFootError", "hasDepthError"};
        for (String question : questions) {
            Runs.run("11 to 25 no such print", """
                    ask(0) = throws.IndexOutOfBoundsException
                    ask(-1) = throws.IndexOutOfBoundsException
                    addTrack(3) = 0
                    addPrint(0, 1, 4, 5, true, 3) = 0
                    addPrint(0, 2, 4, 6, true, 3) = 1
                    removePrint(0) = 0
                    ask(0) = throws.IndexOutOfBoundsException
                    ask(2) = throws.IndexOutOfBoundsException
                    ask(-1) = throws.IndexOutOfBoundsException
                    ask(30) = throws.IndexOutOfBoundsException
                    ask(2147483647) = throws.IndexOutOfBoundsException
                    ask(-2147483648) = throws.IndexOutOfBoundsException
                    totalPrints() = 1
                    rejectionReason() = throws.NoSuchElementException
                    """.replace("ask", question));
        }
    }
}
