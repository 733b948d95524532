import java.util.NoSuchElementException;

/** A proofreader for footprints in wet sand, as ../shared/DOC.md tells it promise by promise. */
public final class SandProofreader {
    public static final int TRACK_LIMIT = 1;
    public static final int PRINT_LIMIT = 2;
    public static final int TIME_TAKEN = 3;
    public static final int UNDER_WATER = 4;
    public static final int CELL_TAKEN = 5;
    public static final int TOO_FAR = 6;
    public static final int DOUBT_LIMIT = 7;
    public static final int NO_DOUBT = 8;
    public static final int SAME_LEVEL = 9;
    public static final int COMMAND_REJECTED = 10;

    private static final int ROWS = 10;
    private static final int COLUMNS = 20;
    private static final int MOST_TRACKS = 6;
    private static final int MOST_PRINTS = 30;
    private static final int MOST_DOUBTS = 3;
    private static final int MOST_CHANGES = 8;
    private static final int LONGEST_INPUT = 60;
    /** Two-character commands with ";" between them: 20 of them take 59 characters. */
    private static final int MOST_COMMANDS = 20;
    /** Every print takes three characters at most: its foot, "?" and "!". */
    private static final int LONGEST_OUTPUT = 3 * MOST_PRINTS;
    private static final int LONGEST_STRIDE = 9;
    private static final int LATEST_TIME = 999;
    private static final int GREATEST_DEPTH = 9;
    private static final int HIGHEST_TIDE = 8;
    private static final int FARTHEST_MOVE = 2;
    /** Rows, and columns, that a move can reach: those on both sides and the own one. */
    private static final int NEARBY = 2 * FARTHEST_MOVE + 1;
    private static final int DEPTH_TOLERANCE = 3;
    private static final int LONGEST_NUMBER = 3;
    private static final int FIRST_SIGN = 32;
    private static final int LAST_SIGN = 126;
    private static final int NONE = -1;

    private final Beach beach;
    private final Proof proof;
    private final History history;
    private final Beach beforeCommands;
    private final Beach snapshot;
    private boolean hasSnapshot;
    private final Script script;
    private final Text output;
    private Rejection latestRejection;
    private int latestSyntaxError;

    public SandProofreader() {
        beach = new Beach();
        proof = new Proof(beach);
        history = new History();
        beforeCommands = new Beach();
        snapshot = new Beach();
        hasSnapshot = false;
        script = new Script();
        output = new Text(new char[LONGEST_OUTPUT]);
        latestRejection = null;
        latestSyntaxError = NONE;
    }

    // ---- tracks and prints

    public int addTrack(int maxStride)
            throws IllegalArgumentException, UnsupportedOperationException {
        if (!isStride(maxStride)) {
            throw new IllegalArgumentException("the maximum stride is out of range");
        }
        rejectFor(beach.objectionToTrack());
        history.push(beach);
        return beach.putTrack(maxStride);
    }

    public int removeTrack(int track) throws IndexOutOfBoundsException {
        Track removed = requireTrack(track);
        history.push(beach);
        return beach.dropTrack(removed);
    }

    public int addPrint(int track, int time, int row, int column, boolean left, int depth)
            throws IndexOutOfBoundsException, IllegalArgumentException,
            UnsupportedOperationException {
        requireTrack(track);
        requireCell(row, column);
        if (!isTime(time) || !isDepth(depth)) {
            throw new IllegalArgumentException("the time or the depth is out of range");
        }
        rejectFor(beach.objectionToPrint(track, time, row, column));
        history.push(beach);
        return beach.putPrint(track, time, row, column, left, depth);
    }

    public int removePrint(int print) throws IndexOutOfBoundsException {
        Print removed = requirePrint(print);
        history.push(beach);
        beach.dropPrint(removed);
        return removed.track;
    }

    public int correctHeel(int print, int row, int column)
            throws IndexOutOfBoundsException, UnsupportedOperationException {
        Print moved = requirePrint(print);
        requireCell(row, column);
        rejectFor(beach.objectionToMove(moved, row, column));
        history.push(beach);
        return beach.moveHeel(moved, row, column);
    }

    public boolean swapFoot(int print) throws IndexOutOfBoundsException {
        Print swapped = requirePrint(print);
        history.push(beach);
        return swapped.turnOver();
    }

    public int doubtToes(int print)
            throws IndexOutOfBoundsException, UnsupportedOperationException {
        Print doubted = requirePrint(print);
        rejectFor(beach.objectionToDoubt(doubted));
        history.push(beach);
        return doubted.raiseDoubt();
    }

    public int confirmToes(int print)
            throws IndexOutOfBoundsException, UnsupportedOperationException {
        Print confirmed = requirePrint(print);
        rejectFor(beach.objectionToConfirmation(confirmed));
        history.push(beach);
        return confirmed.settleDoubts();
    }

    public int setTide(int level)
            throws IllegalArgumentException, UnsupportedOperationException {
        requireLevel(level);
        rejectFor(beach.objectionToTide(level));
        history.push(beach);
        return beach.moveTide(level);
    }

    // ---- one print

    public int trackOf(int print) throws IndexOutOfBoundsException {
        return requirePrint(print).track;
    }

    public int timeOf(int print) throws IndexOutOfBoundsException {
        return requirePrint(print).time;
    }

    public int rowOf(int print) throws IndexOutOfBoundsException {
        return requirePrint(print).row;
    }

    public int columnOf(int print) throws IndexOutOfBoundsException {
        return requirePrint(print).column;
    }

    public boolean isLeft(int print) throws IndexOutOfBoundsException {
        return requirePrint(print).left;
    }

    public int depthOf(int print) throws IndexOutOfBoundsException {
        return requirePrint(print).depth;
    }

    public int doubtsOf(int print) throws IndexOutOfBoundsException {
        return requirePrint(print).doubts;
    }

    public double confidence(int print) throws IndexOutOfBoundsException {
        return 1.0 / (1.0 + (double) requirePrint(print).doubts);
    }

    public boolean isLate(int print) throws IndexOutOfBoundsException {
        return requirePrint(print).late;
    }

    public int previousPrint(int print)
            throws IndexOutOfBoundsException, NoSuchElementException {
        return requireFound(beach.before(requirePrint(print))).id;
    }

    public int nextPrint(int print) throws IndexOutOfBoundsException, NoSuchElementException {
        return requireFound(beach.after(requirePrint(print))).id;
    }

    public int strideOf(int print) throws IndexOutOfBoundsException, NoSuchElementException {
        Print here = requirePrint(print);
        Print previous = requireFound(beach.before(here));
        return here.distanceTo(previous.row, previous.column);
    }

    public boolean hasStrideError(int print) throws IndexOutOfBoundsException {
        return proof.strideIsWrong(requirePrint(print));
    }

    public boolean hasFootError(int print) throws IndexOutOfBoundsException {
        return proof.footIsWrong(requirePrint(print));
    }

    public boolean hasDepthError(int print) throws IndexOutOfBoundsException {
        return proof.depthIsWrong(requirePrint(print));
    }

    // ---- one track

    public int maxStride(int track) throws IndexOutOfBoundsException {
        return requireTrack(track).longestStride;
    }

    public int printCount(int track) throws IndexOutOfBoundsException {
        return beach.countPrints(requireTrack(track));
    }

    public int printAt(int track, int position)
            throws IndexOutOfBoundsException, NoSuchElementException {
        return requireFound(beach.inPlace(requireTrack(track), position)).id;
    }

    public int trackLength(int track) throws IndexOutOfBoundsException {
        return proof.lengthByPrints(requireTrack(track));
    }

    public int trackLengthAgain(int track) throws IndexOutOfBoundsException {
        return proof.lengthByDirections(requireTrack(track));
    }

    public int errorCount(int track) throws IndexOutOfBoundsException {
        return proof.errorsByPrints(requireTrack(track).id);
    }

    public int errorCountAgain(int track) throws IndexOutOfBoundsException {
        return proof.errorsByKinds(requireTrack(track).id);
    }

    public int duration(int track) throws IndexOutOfBoundsException, NoSuchElementException {
        Track here = requireTrack(track);
        Print first = requireFound(beach.inPlace(here, 0));
        Print last = requireFound(beach.inPlace(here, beach.countPrints(here) - 1));
        return last.time - first.time;
    }

    public double averageStride(int track)
            throws IndexOutOfBoundsException, ArithmeticException {
        Track here = requireTrack(track);
        int strides = beach.countPrints(here) - 1;
        if (strides < 1) {
            throw new ArithmeticException("the track has fewer than two prints");
        }
        return (double) proof.lengthByPrints(here) / (double) strides;
    }

    // ---- proofreading

    public int errorsIfMoved(int print, int row, int column) throws IndexOutOfBoundsException {
        Print moved = requirePrint(print);
        requireCell(row, column);
        return proof.errorsWith(moved, row, column);
    }

    public boolean canMove(int print, int row, int column) throws IndexOutOfBoundsException {
        Print moved = requirePrint(print);
        requireCell(row, column);
        return beach.objectionToMove(moved, row, column) == null;
    }

    public int suggestCell(int print) throws IndexOutOfBoundsException {
        return proof.bestCellFor(requirePrint(print));
    }

    public int trackByErrors(int position) throws NoSuchElementException {
        for (Track track : beach.tracks) {
            if (track.exists && proof.countAheadOf(track) == position) {
                return track.id;
            }
        }
        throw new NoSuchElementException("there is no such position");
    }

    public int printByDoubts(int position) throws NoSuchElementException {
        for (Print print : beach.prints) {
            if (print.exists && beach.countAheadOf(print) == position) {
                return print.id;
            }
        }
        throw new NoSuchElementException("there is no such position");
    }

    // ---- the beach

    public int printIn(int row, int column)
            throws IndexOutOfBoundsException, NoSuchElementException {
        requireCell(row, column);
        return requireFound(beach.inCell(row, column)).id;
    }

    public int printsInRow(int row) throws IndexOutOfBoundsException {
        requireRow(row);
        return beach.countPrintsInRows(row, row + 1);
    }

    public int tideLevel() {
        return beach.tide;
    }

    public int erasedBy(int level) throws IllegalArgumentException {
        requireLevel(level);
        return beach.countPrintsInRows(0, level);
    }

    public int trackCount() {
        return beach.countTracks();
    }

    public int totalPrints() {
        return beach.countAllPrints();
    }

    public int erasedPrints() {
        return beach.erased;
    }

    public int correctedHeels() {
        return beach.corrected;
    }

    public float lateShare() throws ArithmeticException {
        int all = beach.countAllPrints();
        if (all == 0) {
            throw new ArithmeticException("there are no prints");
        }
        return (float) beach.countLatePrints() / (float) all;
    }

    public boolean isConsistent() {
        return proof.holds();
    }

    // ---- text output

    public int writeTrack(int track) throws IndexOutOfBoundsException {
        Track here = requireTrack(track);
        output.clear();
        int count = beach.countPrints(here);
        for (int i = 0; i < count; i++) {
            writePrint(beach.inPlace(here, i));
        }
        return output.length;
    }

    private void writePrint(Print print) {
        if (print == null) {
            return;
        }
        output.append(print.left ? 'L' : 'R');
        if (print.doubts > 0) {
            output.append('?');
        }
        if (proof.hasError(print)) {
            output.append('!');
        }
    }

    public int writeRow(int row) throws IndexOutOfBoundsException {
        requireRow(row);
        output.clear();
        for (int column = 0; column < COLUMNS; column++) {
            output.append(signOf(row, column));
        }
        return output.length;
    }

    private char signOf(int row, int column) {
        if (beach.isUnderWater(row)) {
            return '~';
        }
        Print here = beach.inCell(row, column);
        return here == null ? '.' : (char) ('0' + here.id % 10);
    }

    public char outputAt(int index) throws IndexOutOfBoundsException {
        if (!output.reaches(index)) {
            throw new IndexOutOfBoundsException("there is no character at this index");
        }
        return output.signAt(index);
    }

    // ---- commands

    public int appendInput(char character)
            throws IllegalArgumentException, IllegalStateException {
        if (character < FIRST_SIGN || character > LAST_SIGN) {
            throw new IllegalArgumentException("the code of the character is out of range");
        }
        if (script.input.isFull()) {
            throw new IllegalStateException("the input is full");
        }
        script.input.append(character);
        return script.input.length;
    }

    public int execute() throws IllegalArgumentException, IllegalStateException,
            UnsupportedOperationException {
        int wrongSign = script.parse();
        script.input.clear();
        if (wrongSign != NONE) {
            latestSyntaxError = wrongSign;
            throw new IllegalArgumentException("the input has a syntax error");
        }
        beforeCommands.copyFrom(beach);
        for (int i = 0; i < script.count && i < script.commands.length; i++) {
            runCommand(script.commands[i], i);
        }
        history.push(beforeCommands);
        return script.count;
    }

    private void runCommand(Command command, int number) {
        if (!command.isAccepted(beach)) {
            beach.copyFrom(beforeCommands);
            throw new IllegalStateException("a command has an id, a cell or a number unfit for it");
        }
        Rejection cause = command.objection(beach);
        if (cause != null) {
            beach.copyFrom(beforeCommands);
            rejectFor(new Rejection(COMMAND_REJECTED, number, cause));
        }
        command.runOn(beach);
    }

    public int syntaxErrorOffset() throws NoSuchElementException {
        if (latestSyntaxError == NONE) {
            throw new NoSuchElementException("there was no syntax error");
        }
        return latestSyntaxError;
    }

    // ---- rejections and history

    public int rejectionReason() throws NoSuchElementException {
        return requireRejection(latestRejection).reason;
    }

    public int rejectionDetail() throws NoSuchElementException {
        return requireRejection(latestRejection).detail;
    }

    public int causeReason() throws NoSuchElementException {
        return requireRejection(requireRejection(latestRejection).cause).reason;
    }

    public int causeDetail() throws NoSuchElementException {
        return requireRejection(requireRejection(latestRejection).cause).detail;
    }

    public int undo() throws IllegalStateException {
        if (history.count == 0) {
            throw new IllegalStateException("no change can be undone");
        }
        history.popInto(beach);
        return history.count;
    }

    public int undoCount() {
        return history.count;
    }

    public int saveSnapshot() {
        snapshot.copyFrom(beach);
        hasSnapshot = true;
        return beach.countAllPrints();
    }

    public int restoreSnapshot() throws IllegalStateException {
        if (!hasSnapshot) {
            throw new IllegalStateException("there is no snapshot");
        }
        beach.copyFrom(snapshot);
        history.clear();
        return beach.countAllPrints();
    }

    // ---- what a call asks of its arguments

    private static boolean isStride(int stride) {
        return stride >= 1 && stride <= LONGEST_STRIDE;
    }

    private static boolean isTime(int time) {
        return time >= 0 && time <= LATEST_TIME;
    }

    private static boolean isDepth(int depth) {
        return depth >= 1 && depth <= GREATEST_DEPTH;
    }

    private static boolean isLevel(int level) {
        return level >= 0 && level <= HIGHEST_TIDE;
    }

    private static boolean isRow(int row) {
        return row >= 0 && row < ROWS;
    }

    private static boolean isCell(int row, int column) {
        return isRow(row) && column >= 0 && column < COLUMNS;
    }

    private Track requireTrack(int id) {
        Track found = beach.findTrack(id);
        if (found == null) {
            throw new IndexOutOfBoundsException("there is no track with this id");
        }
        return found;
    }

    private Print requirePrint(int id) {
        Print found = beach.findPrint(id);
        if (found == null) {
            throw new IndexOutOfBoundsException("there is no print with this id");
        }
        return found;
    }

    private static void requireCell(int row, int column) {
        if (!isCell(row, column)) {
            throw new IndexOutOfBoundsException("the cell is outside the beach");
        }
    }

    private static void requireRow(int row) {
        if (!isRow(row)) {
            throw new IndexOutOfBoundsException("there is no such row");
        }
    }

    private static void requireLevel(int level) {
        if (!isLevel(level)) {
            throw new IllegalArgumentException("the level is out of range");
        }
    }

    private static Print requireFound(Print found) {
        if (found == null) {
            throw new NoSuchElementException("there is no such print");
        }
        return found;
    }

    private static Rejection requireRejection(Rejection found) {
        if (found == null) {
            throw new NoSuchElementException("there was no such rejection");
        }
        return found;
    }

    private void rejectFor(Rejection objection) {
        if (objection != null) {
            latestRejection = objection;
            throw new UnsupportedOperationException("the call is rejected");
        }
    }

    /** Why a call is rejected; the cause is null but for COMMAND_REJECTED. */
    private static final class Rejection {
        final int reason;
        final int detail;
        final Rejection cause;

        Rejection(int reason, int detail, Rejection cause) {
            this.reason = reason;
            this.detail = detail;
            this.cause = cause;
        }
    }

    /** A place for a track, used again after the track is gone. */
    private static final class Track {
        boolean exists;
        int id;
        int longestStride;

        void copyFrom(Track other) {
            exists = other.exists;
            id = other.id;
            longestStride = other.longestStride;
        }
    }

    /** A place for a print, used again after the print is gone. */
    private static final class Print {
        boolean exists;
        int id;
        int track;
        int time;
        int row;
        int column;
        boolean left;
        int depth;
        int doubts;
        boolean late;

        void copyFrom(Print other) {
            exists = other.exists;
            id = other.id;
            track = other.track;
            time = other.time;
            row = other.row;
            column = other.column;
            left = other.left;
            depth = other.depth;
            doubts = other.doubts;
            late = other.late;
        }

        boolean isOn(int someTrack) {
            return exists && track == someTrack;
        }

        int distanceTo(int otherRow, int otherColumn) {
            return Math.abs(row - otherRow) + Math.abs(column - otherColumn);
        }

        boolean turnOver() {
            left = !left;
            return left;
        }

        int raiseDoubt() {
            doubts++;
            return doubts;
        }

        int settleDoubts() {
            int former = doubts;
            doubts = 0;
            return former;
        }
    }

    /** All that undo and the snapshot cover, and why a change of it is rejected. */
    private static final class Beach {
        final Track[] tracks;
        final Print[] prints;
        int tide;
        int nextTrackId;
        int nextPrintId;
        int erased;
        int corrected;

        Beach() {
            tracks = new Track[MOST_TRACKS];
            for (int i = 0; i < tracks.length; i++) {
                tracks[i] = new Track();
            }
            prints = new Print[MOST_PRINTS];
            for (int i = 0; i < prints.length; i++) {
                prints[i] = new Print();
            }
        }

        void copyFrom(Beach other) {
            for (int i = 0; i < tracks.length && i < other.tracks.length; i++) {
                tracks[i].copyFrom(other.tracks[i]);
            }
            for (int i = 0; i < prints.length && i < other.prints.length; i++) {
                prints[i].copyFrom(other.prints[i]);
            }
            tide = other.tide;
            nextTrackId = other.nextTrackId;
            nextPrintId = other.nextPrintId;
            erased = other.erased;
            corrected = other.corrected;
        }

        Track findTrack(int id) {
            for (Track track : tracks) {
                if (track.exists && track.id == id) {
                    return track;
                }
            }
            return null;
        }

        Print findPrint(int id) {
            for (Print print : prints) {
                if (print.exists && print.id == id) {
                    return print;
                }
            }
            return null;
        }

        int countTracks() {
            int count = 0;
            for (Track track : tracks) {
                count += track.exists ? 1 : 0;
            }
            return count;
        }

        int countAllPrints() {
            return countPrintsInRows(0, ROWS);
        }

        int countPrintsInRows(int from, int end) {
            int count = 0;
            for (Print print : prints) {
                count += print.exists && print.row >= from && print.row < end ? 1 : 0;
            }
            return count;
        }

        int countLatePrints() {
            int count = 0;
            for (Print print : prints) {
                count += print.exists && print.late ? 1 : 0;
            }
            return count;
        }

        int countPrints(Track track) {
            return countPrintsBetween(track.id, NONE, LATEST_TIME + 1);
        }

        /** Counts the prints of a track whose times lie between two others. */
        int countPrintsBetween(int track, int after, int before) {
            int count = 0;
            for (Print print : prints) {
                count += print.isOn(track) && print.time > after && print.time < before ? 1 : 0;
            }
            return count;
        }

        Print inCell(int row, int column) {
            for (Print print : prints) {
                if (print.exists && print.row == row && print.column == column) {
                    return print;
                }
            }
            return null;
        }

        Print atTime(int track, int time) {
            for (Print print : prints) {
                if (print.isOn(track) && print.time == time) {
                    return print;
                }
            }
            return null;
        }

        /** Returns the print of a track that has so many earlier ones, or null. */
        Print inPlace(Track track, int position) {
            for (Print print : prints) {
                if (print.isOn(track.id)
                        && countPrintsBetween(track.id, NONE, print.time) == position) {
                    return print;
                }
            }
            return null;
        }

        Print before(Print print) {
            Print nearest = null;
            for (Print other : prints) {
                if (other.isOn(print.track) && other.time < print.time
                        && (nearest == null || other.time > nearest.time)) {
                    nearest = other;
                }
            }
            return nearest;
        }

        Print after(Print print) {
            Print nearest = null;
            for (Print other : prints) {
                if (other.isOn(print.track) && other.time > print.time
                        && (nearest == null || other.time < nearest.time)) {
                    nearest = other;
                }
            }
            return nearest;
        }

        /** Counts the prints ahead of a print in the order of doubts. */
        int countAheadOf(Print print) {
            int ahead = 0;
            for (Print other : prints) {
                int firstDifference = other.doubts != print.doubts ? other.doubts - print.doubts
                        : other.time != print.time ? print.time - other.time : print.id - other.id;
                ahead += other.exists && firstDifference > 0 ? 1 : 0;
            }
            return ahead;
        }

        boolean isUnderWater(int row) {
            return row < tide;
        }

        Rejection objectionToTrack() {
            if (countTracks() == MOST_TRACKS) {
                return new Rejection(TRACK_LIMIT, MOST_TRACKS, null);
            }
            return null;
        }

        Rejection objectionToPrint(int track, int time, int row, int column) {
            if (countAllPrints() == MOST_PRINTS) {
                return new Rejection(PRINT_LIMIT, MOST_PRINTS, null);
            }
            Print rival = atTime(track, time);
            if (rival != null) {
                return new Rejection(TIME_TAKEN, rival.id, null);
            }
            return objectionToCell(row, column);
        }

        Rejection objectionToMove(Print print, int row, int column) {
            int distance = print.distanceTo(row, column);
            if (distance < 1 || distance > FARTHEST_MOVE) {
                return new Rejection(TOO_FAR, distance, null);
            }
            return objectionToCell(row, column);
        }

        private Rejection objectionToCell(int row, int column) {
            if (isUnderWater(row)) {
                return new Rejection(UNDER_WATER, tide, null);
            }
            Print rival = inCell(row, column);
            return rival == null ? null : new Rejection(CELL_TAKEN, rival.id, null);
        }

        Rejection objectionToDoubt(Print print) {
            if (print.doubts >= MOST_DOUBTS) {
                return new Rejection(DOUBT_LIMIT, MOST_DOUBTS, null);
            }
            return null;
        }

        Rejection objectionToConfirmation(Print print) {
            return print.doubts > 0 ? null : new Rejection(NO_DOUBT, 0, null);
        }

        Rejection objectionToTide(int level) {
            return level != tide ? null : new Rejection(SAME_LEVEL, tide, null);
        }

        int putTrack(int longestStride) {
            for (Track track : tracks) {
                if (!track.exists) {
                    track.exists = true;
                    track.id = nextTrackId;
                    track.longestStride = longestStride;
                    nextTrackId++;
                    return track.id;
                }
            }
            return NONE;
        }

        int dropTrack(Track track) {
            int dropped = 0;
            for (Print print : prints) {
                if (print.isOn(track.id)) {
                    print.exists = false;
                    dropped++;
                }
            }
            track.exists = false;
            return dropped;
        }

        int putPrint(int track, int time, int row, int column, boolean left, int depth) {
            boolean late = countPrintsBetween(track, time, LATEST_TIME + 1) > 0;
            for (Print print : prints) {
                if (!print.exists) {
                    print.exists = true;
                    print.id = nextPrintId;
                    print.track = track;
                    print.time = time;
                    print.row = row;
                    print.column = column;
                    print.left = left;
                    print.depth = depth;
                    print.doubts = 0;
                    print.late = late;
                    nextPrintId++;
                    return print.id;
                }
            }
            return NONE;
        }

        void dropPrint(Print print) {
            print.exists = false;
        }

        int moveHeel(Print print, int row, int column) {
            int distance = print.distanceTo(row, column);
            print.row = row;
            print.column = column;
            corrected++;
            return distance;
        }

        int moveTide(int level) {
            int erasedNow = 0;
            tide = level;
            for (Print print : prints) {
                if (print.exists && isUnderWater(print.row)) {
                    print.exists = false;
                    erasedNow++;
                }
            }
            erased += erasedNow;
            return erasedNow;
        }
    }

    /** Reads the errors of a beach, and orders and suggests by them. */
    private static final class Proof {
        final Beach beach;

        Proof(Beach beach) {
            this.beach = beach;
        }

        boolean strideIsWrong(Print print) {
            return isTooLong(beach.before(print), print);
        }

        boolean footIsWrong(Print print) {
            return isSameFoot(beach.before(print), print);
        }

        boolean depthIsWrong(Print print) {
            return isUneven(beach.before(print), print);
        }

        private boolean isTooLong(Print previous, Print print) {
            Track track = beach.findTrack(print.track);
            return previous != null && track != null
                    && print.distanceTo(previous.row, previous.column) > track.longestStride;
        }

        private boolean isSameFoot(Print previous, Print print) {
            return previous != null && previous.left == print.left;
        }

        private boolean isUneven(Print previous, Print print) {
            return previous != null && Math.abs(previous.depth - print.depth) > DEPTH_TOLERANCE;
        }

        boolean hasError(Print print) {
            return strideIsWrong(print) || footIsWrong(print) || depthIsWrong(print);
        }

        int errorsByPrints(int track) {
            int errors = 0;
            for (Print print : beach.prints) {
                Print previous = print.isOn(track) ? beach.before(print) : null;
                errors += isTooLong(previous, print) ? 1 : 0;
                errors += isSameFoot(previous, print) ? 1 : 0;
                errors += isUneven(previous, print) ? 1 : 0;
            }
            return errors;
        }

        int errorsByKinds(int track) {
            int strides = 0;
            for (Print print : beach.prints) {
                strides += print.isOn(track) && isTooLong(beach.before(print), print) ? 1 : 0;
            }
            int feet = 0;
            for (Print print : beach.prints) {
                feet += print.isOn(track) && isSameFoot(beach.before(print), print) ? 1 : 0;
            }
            int depths = 0;
            for (Print print : beach.prints) {
                depths += print.isOn(track) && isUneven(beach.before(print), print) ? 1 : 0;
            }
            return strides + feet + depths;
        }

        int lengthByPrints(Track track) {
            int length = 0;
            for (Print print : beach.prints) {
                Print previous = print.isOn(track.id) ? beach.before(print) : null;
                length += previous == null ? 0 : print.distanceTo(previous.row, previous.column);
            }
            return length;
        }

        int lengthByDirections(Track track) {
            int down = 0;
            int across = 0;
            for (Print print : beach.prints) {
                Print previous = print.isOn(track.id) ? beach.before(print) : null;
                if (previous != null) {
                    down += Math.abs(print.row - previous.row);
                    across += Math.abs(print.column - previous.column);
                }
            }
            return down + across;
        }

        int errorsWith(Print print, int row, int column) {
            int formerRow = print.row;
            int formerColumn = print.column;
            print.row = row;
            print.column = column;
            int errors = errorsByPrints(print.track);
            print.row = formerRow;
            print.column = formerColumn;
            return errors;
        }

        /** Goes through the cells row by row, so that a later equal cell never wins. */
        int bestCellFor(Print print) {
            int best = print.row * COLUMNS + print.column;
            int fewest = errorsByPrints(print.track);
            int nearest = 0;
            for (int i = 0; i < NEARBY * NEARBY; i++) {
                int row = print.row - FARTHEST_MOVE + i / NEARBY;
                int column = print.column - FARTHEST_MOVE + i % NEARBY;
                if (isCell(row, column) && beach.objectionToMove(print, row, column) == null) {
                    int errors = errorsWith(print, row, column);
                    int distance = print.distanceTo(row, column);
                    if (errors < fewest || errors == fewest && distance < nearest) {
                        best = row * COLUMNS + column;
                        fewest = errors;
                        nearest = distance;
                    }
                }
            }
            return best;
        }

        /** Counts the tracks ahead of a track in the order of errors. */
        int countAheadOf(Track track) {
            int errors = errorsByPrints(track.id);
            int prints = beach.countPrints(track);
            int ahead = 0;
            for (Track other : beach.tracks) {
                int moreErrors = errorsByPrints(other.id) - errors;
                int morePrints = beach.countPrints(other) - prints;
                int firstDifference = moreErrors != 0 ? moreErrors
                        : morePrints != 0 ? morePrints : track.id - other.id;
                ahead += other.exists && firstDifference > 0 ? 1 : 0;
            }
            return ahead;
        }

        boolean holds() {
            for (Track track : beach.tracks) {
                if (track.exists && !trackHolds(track)) {
                    return false;
                }
            }
            for (Print print : beach.prints) {
                if (print.exists && (beach.isUnderWater(print.row)
                        || beach.inCell(print.row, print.column) != print)) {
                    return false;
                }
            }
            return true;
        }

        private boolean trackHolds(Track track) {
            return lengthByPrints(track) == lengthByDirections(track)
                    && errorsByPrints(track.id) == errorsByKinds(track.id)
                    && isInTimeOrder(track);
        }

        private boolean isInTimeOrder(Track track) {
            int latest = NONE;
            int count = beach.countPrints(track);
            for (int i = 0; i < count; i++) {
                Print print = beach.inPlace(track, i);
                if (print == null || print.time <= latest) {
                    return false;
                }
                latest = print.time;
            }
            return true;
        }
    }

    /** The beaches ahead of the latest changes, the newest first. */
    private static final class History {
        final Beach[] past;
        int count;

        History() {
            past = new Beach[MOST_CHANGES];
            for (int i = 0; i < past.length; i++) {
                past[i] = new Beach();
            }
        }

        void push(Beach beach) {
            Beach oldest = past[past.length - 1];
            for (int i = past.length - 1; i > 0; i--) {
                past[i] = past[i - 1];
            }
            past[0] = oldest;
            oldest.copyFrom(beach);
            count = Math.min(count + 1, past.length);
        }

        void popInto(Beach beach) {
            Beach newest = past[0];
            beach.copyFrom(newest);
            for (int i = 1; i < past.length; i++) {
                past[i - 1] = past[i];
            }
            past[past.length - 1] = newest;
            count = Math.max(count - 1, 0);
        }

        void clear() {
            count = 0;
        }
    }

    /** Characters up to a limit. */
    private static final class Text {
        final char[] signs;
        int length;

        Text(char[] signs) {
            this.signs = signs;
        }

        boolean isFull() {
            return length >= signs.length;
        }

        void append(char sign) {
            if (length < signs.length) {
                signs[length] = sign;
                length++;
            }
        }

        boolean reaches(int index) {
            return index >= 0 && index < length && index < signs.length;
        }

        /** Returns the character at an index, or 0, which no text has. */
        char signAt(int index) {
            return reaches(index) ? signs[index] : 0;
        }

        void clear() {
            length = 0;
        }
    }

    /** One command; only the fields that its letter calls for have a meaning. */
    private static final class Command {
        char letter;
        int id;
        int time;
        int row;
        int column;
        boolean left;
        int digit;

        boolean isAccepted(Beach beach) {
            switch (letter) {
                case 'T':
                    return isStride(digit);
                case 'P':
                    return beach.findTrack(id) != null && isCell(row, column)
                            && isTime(time) && isDepth(digit);
                case 'H':
                    return beach.findPrint(id) != null && isCell(row, column);
                case 'W':
                    return isLevel(digit);
                default:
                    return beach.findPrint(id) != null;
            }
        }

        Rejection objection(Beach beach) {
            Print print = beach.findPrint(id);
            switch (letter) {
                case 'T':
                    return beach.objectionToTrack();
                case 'P':
                    return beach.objectionToPrint(id, time, row, column);
                case 'H':
                    return print == null ? null : beach.objectionToMove(print, row, column);
                case 'D':
                    return print == null ? null : beach.objectionToDoubt(print);
                case 'C':
                    return print == null ? null : beach.objectionToConfirmation(print);
                case 'W':
                    return beach.objectionToTide(digit);
                default:
                    return null;
            }
        }

        void runOn(Beach beach) {
            Print print = beach.findPrint(id);
            if (letter == 'T') {
                beach.putTrack(digit);
            } else if (letter == 'P') {
                beach.putPrint(id, time, row, column, left, digit);
            } else if (letter == 'W') {
                beach.moveTide(digit);
            } else if (print != null) {
                runOnPrint(beach, print);
            }
        }

        private void runOnPrint(Beach beach, Print print) {
            switch (letter) {
                case 'H':
                    beach.moveHeel(print, row, column);
                    break;
                case 'F':
                    print.turnOver();
                    break;
                case 'D':
                    print.raiseDoubt();
                    break;
                case 'C':
                    print.settleDoubts();
                    break;
                case 'X':
                    beach.dropPrint(print);
                    break;
                default:
                    break;
            }
        }
    }

    /** The input, and the commands that it was read as. */
    private static final class Script {
        final Text input;
        final Command[] commands;
        int count;
        private int at;
        private boolean failed;

        Script() {
            input = new Text(new char[LONGEST_INPUT]);
            commands = new Command[MOST_COMMANDS];
            for (int i = 0; i < commands.length; i++) {
                commands[i] = new Command();
            }
        }

        /** Returns the offset of the first syntax error, or NONE. */
        int parse() {
            at = 0;
            count = 0;
            boolean more = true;
            for (int i = 0; i < commands.length && more; i++) {
                readCommand(commands[i]);
                count++;
                more = !failed && input.signAt(at) == ';';
                at += more ? 1 : 0;
            }
            return failed || more || at < input.length ? at : NONE;
        }

        /** Stops at the first sign that does not fit, so that `at` is its offset. */
        private void readCommand(Command command) {
            command.letter = input.signAt(at);
            String parts = partsBehind(command.letter);
            failed = parts.isEmpty();
            at += failed ? 0 : 1;
            for (int i = 0; i < parts.length() && !failed; i++) {
                readPart(parts.charAt(i), command);
            }
        }

        /** i, t, r and c stand for numbers, f for a foot, d for a digit, others for themselves. */
        private static String partsBehind(char letter) {
            switch (letter) {
                case 'T':
                case 'W':
                    return "d";
                case 'P':
                    return "i@t:r,cfd";
                case 'H':
                    return "i:r,c";
                case 'F':
                case 'D':
                case 'C':
                case 'X':
                    return "i";
                default:
                    return "";
            }
        }

        private void readPart(char part, Command command) {
            switch (part) {
                case 'i':
                    command.id = readNumber(LONGEST_NUMBER);
                    break;
                case 't':
                    command.time = readNumber(LONGEST_NUMBER);
                    break;
                case 'r':
                    command.row = readNumber(LONGEST_NUMBER);
                    break;
                case 'c':
                    command.column = readNumber(LONGEST_NUMBER);
                    break;
                case 'f':
                    command.left = input.signAt(at) == 'L';
                    readSign(command.left ? 'L' : 'R');
                    break;
                case 'd':
                    command.digit = readNumber(1);
                    break;
                default:
                    readSign(part);
                    break;
            }
        }

        private int readNumber(int mostDigits) {
            int number = 0;
            int digits = 0;
            for (int i = 0; i < mostDigits; i++) {
                char sign = input.signAt(at);
                if (digits == i && sign >= '0' && sign <= '9') {
                    number = 10 * number + (sign - '0');
                    digits++;
                    at++;
                }
            }
            failed = digits == 0;
            return number;
        }

        private void readSign(char sign) {
            failed = input.signAt(at) != sign;
            at += failed ? 0 : 1;
        }
    }
}
