import java.util.Arrays;

/**
 * A detective for old books without a title page: the printer and the year that explain the most
 * weight of the clues that are read become the verdict.
 */
public final class ColophonDetective {
    public static final int NONE = -1;
    public static final int SYNTAX_ERROR = 1;
    public static final int RANGE_ERROR = 2;
    public static final int NAME_ERROR = 3;
    public static final int LIMIT_ERROR = 4;
    public static final int DEVICE = 0;
    public static final int TYPEFACE = 1;
    public static final int WATERMARK = 2;
    public static final int CITY = 3;
    public static final int DATE = 4;

    private static final int PRINTER_LIMIT = 8;
    private static final int WATERMARK_LIMIT = 8;
    private static final int EDITION_LIMIT = 12;
    private static final int CLUE_LIMIT = 40;
    private static final int COMMAND_LIMIT = 30;
    private static final int TEXT_LIMIT = 1400;
    private static final int UNDO_LIMIT = 8;

    private static final int NAME_LENGTH = 6;
    private static final int NUMBER_LENGTH = 4;
    private static final int APPENDED_BYTES = 20;
    private static final int FIRST_YEAR = 1450;
    private static final int LAST_YEAR = 1999;
    private static final int YEAR_COUNT = LAST_YEAR - FIRST_YEAR + 1;
    private static final int WATERMARK_DELAY = 3;
    private static final int EDITION_DISTANCE = 1;
    private static final int LAST_DEVICE = 31;
    private static final int LAST_TYPEFACE = 15;
    private static final int LAST_CITY = 9;
    private static final int LAST_PAGE = 999;
    private static final int LAST_WEIGHT = 9;

    // A name, the separating space, a year, and a sign with two digits for each clue.
    private static final int OUTPUT_LIMIT = NAME_LENGTH + 1 + NUMBER_LENGTH + 3 * CLUE_LIMIT;

    // No letter has the number 0, so no name is packed as 0.
    private static final int NO_NAME = 0;
    private static final int LETTER_BITS = 5;
    private static final int LETTER_MASK = 31;

    private static final int NO_FAULT = 0;
    private static final int FAULT_INDEX = 1;
    private static final int FAULT_ARGUMENT = 2;
    private static final int FAULT_STATE = 3;

    private static final String DEFAULT_PRINTERS =
            "printer aldus 1 1494 1515;printer estien 2 1502 1559;printer plantn 3 1555 1589;";
    private static final String DEFAULT_DEVICES = "device aldus 4;device estien 7;device plantn 4;";
    private static final String DEFAULT_TYPEFACES = "type aldus 1;type estien 1;type plantn 2;";
    private static final String DEFAULT_WATERMARKS = "mark 1500 1506;mark 1556 1560;";
    private static final String DEFAULT_EDITIONS = "edition aldus 1501;edition plantn 1557;";
    private static final String DEFAULT_LAST_CLUES =
            "clue 200 device 4 5;clue 180 mark 0 3;clue 180 year 1504 2;";
    private static final String DEFAULT_FIRST_CLUES =
            "clue 90 city 3 4;clue 40 type 2 6;clue 12 mark 1 7;";

    private final InputText input = new InputText();
    private final ConfigurationReader configuration = new ConfigurationReader();
    private final CommandList commands = new CommandList();
    private final Casebook book = new Casebook();
    private final Casebook saved = new Casebook();
    private boolean isSaved = false;
    private final History history = new History();
    private final Judge judge = new Judge();
    private final OutputText output = new OutputText();

    public ColophonDetective() {
        input.addText(DEFAULT_PRINTERS);
        input.addText(DEFAULT_DEVICES);
        input.addText(DEFAULT_TYPEFACES);
        input.addText(DEFAULT_WATERMARKS);
        input.addText(DEFAULT_EDITIONS);
        input.addText(DEFAULT_LAST_CLUES);
        input.addText(DEFAULT_FIRST_CLUES);
        configuration.fillFrom(input);
        input.cutTo(0);
        book.copyFrom(configuration.draft);
    }

    // ---- the input buffer and what is read from it

    public int append(int a, int b, int c, int d, int e) throws IllegalStateException {
        if (!input.hasRoomFor(APPENDED_BYTES)) {
            throw new IllegalStateException("the input buffer is full");
        }
        input.addFourBytes(a);
        input.addFourBytes(b);
        input.addFourBytes(c);
        input.addFourBytes(d);
        input.addFourBytes(e);
        return input.length;
    }

    public int truncate(int length) throws IllegalArgumentException {
        if (length < 0 || length > input.length) {
            throw new IllegalArgumentException("no such length");
        }
        input.cutTo(length);
        return input.length;
    }

    public int load() throws IllegalArgumentException {
        boolean isSound = configuration.fillFrom(input);
        input.cutTo(0);
        if (!isSound) {
            throw new IllegalArgumentException("the configuration has an error");
        }
        book.copyFrom(configuration.draft);
        history.forget();
        return book.clues.count;
    }

    public int executeCommands() throws IllegalArgumentException {
        boolean isSound = commands.fillFrom(input, book.archive);
        input.cutTo(0);
        if (!isSound) {
            throw new IllegalArgumentException("the command text has an error");
        }
        history.prepare(book);
        int done = 0;
        while (done < commands.count && perform(done) == NO_FAULT) {
            done++;
        }
        history.commit();
        return done;
    }

    public int errorCode() {
        return input.errorNumber;
    }

    public int errorPosition() {
        return input.errorStart;
    }

    // ---- printers, watermarks and editions

    public int printerCount() {
        return book.archive.printers;
    }

    public int findPrinter() {
        return book.archive.printerNamed(input.packedName(0, input.length));
    }

    public int cityOf(int printer) throws IndexOutOfBoundsException {
        requirePrinter(printer);
        return book.archive.cities[printer];
    }

    public boolean isActive(int printer, int year)
            throws IndexOutOfBoundsException, IllegalArgumentException {
        requirePrinter(printer);
        requireYear(year);
        return book.archive.worksIn(printer, year);
    }

    public boolean hasDevice(int printer, int device) throws IndexOutOfBoundsException {
        requirePrinter(printer);
        return book.archive.ownsDevice(printer, device);
    }

    public boolean hasTypeface(int printer, int typeface) throws IndexOutOfBoundsException {
        requirePrinter(printer);
        return book.archive.ownsTypeface(printer, typeface);
    }

    public int deviceOwners(int device) {
        return book.archive.ownersOf(device);
    }

    public int watermarkCount() {
        return book.archive.watermarks;
    }

    public int watermarksOf(int year) throws IllegalArgumentException {
        requireYear(year);
        int count = 0;
        for (int mark = 0; mark < book.archive.watermarks; mark++) {
            if (book.archive.watermarkFits(mark, year)) {
                count++;
            }
        }
        return count;
    }

    public int editionCount() {
        return book.archive.editions;
    }

    // ---- clues

    public int clueCount() {
        return book.clues.count;
    }

    public int kindOf(int clue) throws IndexOutOfBoundsException {
        requireClue(clue);
        return book.clues.kinds[clue];
    }

    public int valueOf(int clue) throws IndexOutOfBoundsException {
        requireClue(clue);
        return book.clues.values[clue];
    }

    public int pageOf(int clue) throws IndexOutOfBoundsException {
        requireClue(clue);
        return book.clues.pages[clue];
    }

    public int weightOf(int clue) throws IndexOutOfBoundsException {
        requireClue(clue);
        return book.clues.weights[clue];
    }

    public boolean isRead(int clue) throws IndexOutOfBoundsException {
        requireClue(clue);
        return book.clues.known[clue];
    }

    public boolean isAside(int clue) throws IndexOutOfBoundsException {
        requireClue(clue);
        return book.clues.dropped[clue];
    }

    public int clueInOrder(int rank) {
        return book.clues.clueAt(rank);
    }

    public int nextClue() {
        return book.clues.firstUnread();
    }

    public int countingWeight() {
        int sum = 0;
        for (int clue = 0; clue < book.clues.count; clue++) {
            if (book.clues.counts(clue)) {
                sum += book.clues.weights[clue];
            }
        }
        return sum;
    }

    // ---- candidates, the ranking and the verdict

    public boolean explains(int printer, int year, int clue)
            throws IndexOutOfBoundsException, IllegalArgumentException {
        requirePrinter(printer);
        requireClue(clue);
        requireYear(year);
        return book.archive.worksIn(printer, year) && book.candidateFits(printer, year, clue);
    }

    public int score(int printer, int year)
            throws IndexOutOfBoundsException, IllegalArgumentException {
        requirePrinter(printer);
        requireYear(year);
        if (!book.archive.worksIn(printer, year)) {
            return NONE;
        }
        int sum = 0;
        for (int clue = 0; clue < book.clues.count; clue++) {
            if (book.clues.counts(clue) && book.candidateFits(printer, year, clue)) {
                sum += book.clues.weights[clue];
            }
        }
        return sum;
    }

    public int bestYear(int printer) throws IndexOutOfBoundsException {
        requirePrinter(printer);
        judgePresent();
        return judge.topYears[printer];
    }

    public int bestScore(int printer) throws IndexOutOfBoundsException {
        requirePrinter(printer);
        judgePresent();
        return judge.topScores[printer];
    }

    public int bestYears(int printer) throws IndexOutOfBoundsException {
        requirePrinter(printer);
        judgePresent();
        return judge.topYearCounts[printer];
    }

    public int printerByRank(int rank) {
        judgePresent();
        return judge.printerAt(rank);
    }

    public int verdictPrinter() {
        judgePresent();
        return judge.winner();
    }

    public int verdictYear() {
        judgePresent();
        return judge.winningYear();
    }

    public int verdictScore() {
        judgePresent();
        return judge.winningScore();
    }

    public int margin() {
        judgePresent();
        return judge.winningScore() - judge.scoreAt(1);
    }

    public int unexplainedCount() {
        judgePresent();
        int count = 0;
        for (int clue = 0; clue < book.clues.count; clue++) {
            if (judge.leavesOpen(book, clue)) {
                count++;
            }
        }
        return count;
    }

    public int unexplainedClue(int rank) {
        judgePresent();
        int before = 0;
        for (int place = 0; place < book.clues.count; place++) {
            int clue = book.clues.clueAt(place);
            if (judge.leavesOpen(book, clue)) {
                if (before == rank) {
                    return clue;
                }
                before++;
            }
        }
        return NONE;
    }

    public int matchingEdition() {
        judgePresent();
        return book.archive.editionNear(judge.winner(), judge.winningYear());
    }

    public boolean contradict(int clue, int other) throws IndexOutOfBoundsException {
        requireClue(clue);
        requireClue(other);
        return clue != other && !book.canBothHold(clue, other);
    }

    public int contradictionsOf(int clue) throws IndexOutOfBoundsException {
        requireClue(clue);
        int count = 0;
        for (int other = 0; other < book.clues.count; other++) {
            if (other != clue && !book.canBothHold(clue, other)) {
                count++;
            }
        }
        return count;
    }

    public int impossibleClues() {
        int count = 0;
        for (int clue = 0; clue < book.clues.count; clue++) {
            if (!book.canBothHold(clue, clue)) {
                count++;
            }
        }
        return count;
    }

    // ---- predictions and checks

    public int printerAfter(int count) throws IllegalArgumentException {
        requirePrediction(count);
        judge.weigh(book, count, NONE);
        return judge.winner();
    }

    public int yearAfter(int count) throws IllegalArgumentException {
        requirePrediction(count);
        judge.weigh(book, count, NONE);
        return judge.winningYear();
    }

    public int cluesUntilChange() {
        judgePresent();
        int present = judge.winner();
        int unread = book.clues.unreadCount();
        for (int count = 1; count <= unread; count++) {
            judge.weigh(book, count, NONE);
            if (judge.winner() != present) {
                return count;
            }
        }
        return NONE;
    }

    public int decisiveClue() {
        judgePresent();
        int present = judge.winner();
        for (int clue = 0; clue < book.clues.count; clue++) {
            if (book.clues.counts(clue)) {
                judge.weigh(book, 0, clue);
                if (judge.winner() != present) {
                    return clue;
                }
            }
        }
        return NONE;
    }

    public int rankingErrors() {
        judgePresent();
        int errors = 0;
        for (int rank = 1; rank < book.archive.printers; rank++) {
            if (!judge.isInOrder(rank)) {
                errors++;
            }
        }
        int accounted = judge.winningScore();
        for (int clue = 0; clue < book.clues.count; clue++) {
            if (judge.leavesOpen(book, clue)) {
                accounted += book.clues.weights[clue];
            }
        }
        return accounted == countingWeight() ? errors : errors + 1;
    }

    public double confidence() {
        int counting = countingWeight();
        if (counting <= 0) {
            return 0.0;
        }
        judgePresent();
        return (double) judge.winningScore() / (double) counting;
    }

    // ---- operations

    public int addDeviceClue(int page, int device, int weight)
            throws IllegalArgumentException, IllegalStateException {
        return addClue(page, DEVICE, device, weight);
    }

    public int addTypefaceClue(int page, int typeface, int weight)
            throws IllegalArgumentException, IllegalStateException {
        return addClue(page, TYPEFACE, typeface, weight);
    }

    public int addWatermarkClue(int page, int watermark, int weight)
            throws IllegalArgumentException, IllegalStateException {
        return addClue(page, WATERMARK, watermark, weight);
    }

    public int addCityClue(int page, int city, int weight)
            throws IllegalArgumentException, IllegalStateException {
        return addClue(page, CITY, city, weight);
    }

    public int addDateClue(int page, int year, int weight)
            throws IllegalArgumentException, IllegalStateException {
        return addClue(page, DATE, year, weight);
    }

    public int read(int count) throws IllegalArgumentException {
        int unread = book.clues.unreadCount();
        history.prepare(book);
        refuse(book.readOn(count));
        history.commit();
        return Math.min(count, unread);
    }

    public int setAside(int clue) throws IndexOutOfBoundsException, IllegalStateException {
        history.prepare(book);
        refuse(book.drop(clue));
        history.commit();
        judgePresent();
        return judge.winningScore();
    }

    public int takeBack(int clue) throws IndexOutOfBoundsException, IllegalStateException {
        history.prepare(book);
        refuse(book.pickUp(clue));
        history.commit();
        judgePresent();
        return judge.winningScore();
    }

    public int setAsideUnexplained() {
        judgePresent();
        history.prepare(book);
        int count = 0;
        for (int clue = 0; clue < book.clues.count; clue++) {
            if (judge.leavesOpen(book, clue)) {
                book.drop(clue);
                count++;
            }
        }
        history.commit();
        return count;
    }

    public int setWeight(int clue, int weight)
            throws IndexOutOfBoundsException, IllegalArgumentException {
        requireClue(clue);
        int previous = book.clues.weights[clue];
        history.prepare(book);
        refuse(book.changeWeight(clue, weight));
        history.commit();
        return previous;
    }

    public int transferDevice(int from, int to, int device)
            throws IndexOutOfBoundsException, IllegalArgumentException, IllegalStateException {
        history.prepare(book);
        refuse(book.lend(from, to, device));
        history.commit();
        return book.archive.ownersOf(device);
    }

    // ---- going back

    public int undo() throws IllegalStateException {
        if (history.count <= 0) {
            throw new IllegalStateException("there is no operation to undo");
        }
        history.bringBack(book);
        return history.count;
    }

    public int save() {
        saved.copyFrom(book);
        isSaved = true;
        return book.clues.count;
    }

    public int restore() throws IllegalStateException {
        if (!isSaved) {
            throw new IllegalStateException("there is no saved state");
        }
        book.copyFrom(saved);
        history.forget();
        return book.clues.count;
    }

    // ---- the output

    public int formatVerdict() {
        judgePresent();
        output.clear();
        output.putName(book.archive.nameAt(judge.winner()));
        output.put(' ');
        output.putNumber(judge.winningYear());
        for (int place = 0; place < book.clues.count; place++) {
            int clue = book.clues.clueAt(place);
            if (judge.heeds(clue)) {
                output.put(judge.leavesOpen(book, clue) ? '-' : '+');
                output.putNumber(clue);
            }
        }
        return output.length;
    }

    public int outputByte(int index) {
        return output.byteAt(index);
    }

    // ---- helpers of the face

    private int addClue(int page, int kind, int value, int weight) {
        history.prepare(book);
        refuse(book.enterClue(page, kind, value, weight));
        history.commit();
        return book.clues.count - 1;
    }

    private int perform(int index) {
        if (index < 0 || index >= commands.count) {
            return FAULT_INDEX;
        }
        int first = commands.first[index];
        int second = commands.second[index];
        int third = commands.third[index];
        switch (commands.verbs[index]) {
            case CommandList.CLUE:
                return book.enterClue(first, second, third, commands.fourth[index]);
            case CommandList.READ:
                return book.readOn(first);
            case CommandList.ASIDE:
                return book.drop(first);
            case CommandList.BACK:
                return book.pickUp(first);
            case CommandList.WEIGH:
                return book.changeWeight(first, second);
            default:
                return book.lend(first, second, third);
        }
    }

    private void judgePresent() {
        judge.weigh(book, 0, NONE);
    }

    private static void refuse(int fault) {
        if (fault == FAULT_INDEX) {
            throw new IndexOutOfBoundsException("there is no such printer or clue");
        }
        if (fault == FAULT_ARGUMENT) {
            throw new IllegalArgumentException("an argument is out of range");
        }
        if (fault == FAULT_STATE) {
            throw new IllegalStateException("the operation is not possible now");
        }
    }

    private void requirePrinter(int printer) {
        if (!book.archive.hasPrinter(printer)) {
            throw new IndexOutOfBoundsException("there is no such printer");
        }
    }

    private void requireClue(int clue) {
        if (!book.clues.has(clue)) {
            throw new IndexOutOfBoundsException("there is no such clue");
        }
    }

    private static void requireYear(int year) {
        if (!isWithin(year, FIRST_YEAR, LAST_YEAR)) {
            throw new IllegalArgumentException("the year is out of range");
        }
    }

    private static void requirePrediction(int count) {
        if (!isWithin(count, 0, CLUE_LIMIT)) {
            throw new IllegalArgumentException("the count is out of range");
        }
    }

    private static boolean isWithin(int value, int low, int high) {
        return value >= low && value <= high;
    }

    /** The input buffer, and the token in it that a parser looks at. */
    private static final class InputText {
        static final int END = 0;
        static final int WORD = 1;
        static final int NUMBER = 2;
        static final int SEMICOLON = 3;
        static final int INVALID = 4;

        final byte[] bytes = new byte[TEXT_LIMIT];
        int length = 0;
        int tokenKind = END;
        int tokenStart = 0;
        int tokenEnd = 0;
        int errorNumber = 0;
        int errorStart = NONE;

        boolean hasRoomFor(int more) {
            return more >= 0 && more <= TEXT_LIMIT - length;
        }

        void addFourBytes(int word) {
            addByte(word >>> 24);
            addByte(word >>> 16);
            addByte(word >>> 8);
            addByte(word);
        }

        void addText(String text) {
            for (int i = 0; i < text.length(); i++) {
                addByte(text.charAt(i));
            }
        }

        private void addByte(int value) {
            if (length >= 0 && length < bytes.length) {
                bytes[length] = (byte) value;
                length++;
            }
        }

        void cutTo(int newLength) {
            if (newLength >= 0 && newLength <= length) {
                length = newLength;
            }
        }

        void startParsing() {
            tokenEnd = 0;
            errorNumber = 0;
            errorStart = NONE;
            takeToken();
        }

        boolean isSound() {
            return errorNumber == 0;
        }

        boolean hasMore() {
            return isSound() && tokenKind != END;
        }

        // After an error no token fits any more, so that a statement can be read to its end
        // without a test after each token, and the first error stays the reported one.
        void fail(int code) {
            if (isSound()) {
                errorNumber = code;
                errorStart = tokenStart;
            }
            tokenKind = INVALID;
        }

        void takeToken() {
            int start = tokenEnd;
            while (start < length && bytes[start] == ' ') {
                start++;
            }
            tokenStart = start;
            tokenEnd = start;
            if (start >= length) {
                tokenKind = END;
                return;
            }
            tokenKind = kindOfByte(bytes[start]);
            tokenEnd++;
            if (tokenKind == WORD || tokenKind == NUMBER) {
                while (tokenEnd < length && kindOfByte(bytes[tokenEnd]) == tokenKind) {
                    tokenEnd++;
                }
            }
        }

        private static int kindOfByte(byte value) {
            if (value >= 'a' && value <= 'z') {
                return WORD;
            }
            if (value >= '0' && value <= '9') {
                return NUMBER;
            }
            return value == ';' ? SEMICOLON : INVALID;
        }

        boolean isAt(String word) {
            if (tokenKind != WORD || tokenEnd - tokenStart != word.length()) {
                return false;
            }
            for (int i = 0; i < word.length(); i++) {
                if (bytes[tokenStart + i] != word.charAt(i)) {
                    return false;
                }
            }
            return true;
        }

        int takeNumber(int low, int high) {
            if (tokenKind != NUMBER || tokenEnd - tokenStart > NUMBER_LENGTH) {
                fail(SYNTAX_ERROR);
                return 0;
            }
            int value = 0;
            for (int i = tokenStart; i < tokenEnd; i++) {
                value = 10 * value + bytes[i] - '0';
            }
            if (!isWithin(value, low, high)) {
                fail(RANGE_ERROR);
                return 0;
            }
            takeToken();
            return value;
        }

        boolean takeSemicolon() {
            if (tokenKind == SEMICOLON) {
                takeToken();
            } else {
                fail(SYNTAX_ERROR);
            }
            return isSound();
        }

        int takeKind() {
            int kind = NONE;
            if (isAt("device")) {
                kind = DEVICE;
            } else if (isAt("type")) {
                kind = TYPEFACE;
            } else if (isAt("mark")) {
                kind = WATERMARK;
            } else if (isAt("city")) {
                kind = CITY;
            } else if (isAt("year")) {
                kind = DATE;
            }
            if (kind == NONE) {
                fail(SYNTAX_ERROR);
            } else {
                takeToken();
            }
            return kind;
        }

        int takeNewName(Archive archive) {
            int name = tokenKind == WORD ? packedName(tokenStart, tokenEnd) : NO_NAME;
            if (name == NO_NAME) {
                fail(SYNTAX_ERROR);
            } else if (archive.printerNamed(name) != NONE) {
                fail(NAME_ERROR);
            } else {
                takeToken();
            }
            return name;
        }

        int takePrinter(Archive archive) {
            int name = tokenKind == WORD ? packedName(tokenStart, tokenEnd) : NO_NAME;
            int printer = archive.printerNamed(name);
            if (name == NO_NAME) {
                fail(SYNTAX_ERROR);
            } else if (printer == NONE) {
                fail(NAME_ERROR);
            } else {
                takeToken();
            }
            return printer;
        }

        /** Packs letters into a number; NO_NAME if they are no name. */
        int packedName(int from, int to) {
            if (from < 0 || to > length || !isWithin(to - from, 1, NAME_LENGTH)) {
                return NO_NAME;
            }
            int name = 0;
            for (int i = from; i < to; i++) {
                if (kindOfByte(bytes[i]) != WORD) {
                    return NO_NAME;
                }
                name = (name << LETTER_BITS) | (bytes[i] - 'a' + 1);
            }
            return name;
        }
    }

    /** The printers, watermarks and editions. */
    private static final class Archive {
        int printers = 0;
        final int[] names = new int[PRINTER_LIMIT];
        final int[] cities = new int[PRINTER_LIMIT];
        final int[] firstYears = new int[PRINTER_LIMIT];
        final int[] lastYears = new int[PRINTER_LIMIT];
        final int[] devices = new int[PRINTER_LIMIT];
        final int[] typefaces = new int[PRINTER_LIMIT];
        int watermarks = 0;
        final int[] watermarkStarts = new int[WATERMARK_LIMIT];
        final int[] watermarkEnds = new int[WATERMARK_LIMIT];
        int editions = 0;
        final int[] editionPrinters = new int[EDITION_LIMIT];
        final int[] editionYears = new int[EDITION_LIMIT];

        void clear() {
            printers = 0;
            watermarks = 0;
            editions = 0;
        }

        void copyFrom(Archive other) {
            printers = other.printers;
            System.arraycopy(other.names, 0, names, 0, PRINTER_LIMIT);
            System.arraycopy(other.cities, 0, cities, 0, PRINTER_LIMIT);
            System.arraycopy(other.firstYears, 0, firstYears, 0, PRINTER_LIMIT);
            System.arraycopy(other.lastYears, 0, lastYears, 0, PRINTER_LIMIT);
            System.arraycopy(other.devices, 0, devices, 0, PRINTER_LIMIT);
            System.arraycopy(other.typefaces, 0, typefaces, 0, PRINTER_LIMIT);
            watermarks = other.watermarks;
            System.arraycopy(other.watermarkStarts, 0, watermarkStarts, 0, WATERMARK_LIMIT);
            System.arraycopy(other.watermarkEnds, 0, watermarkEnds, 0, WATERMARK_LIMIT);
            editions = other.editions;
            System.arraycopy(other.editionPrinters, 0, editionPrinters, 0, EDITION_LIMIT);
            System.arraycopy(other.editionYears, 0, editionYears, 0, EDITION_LIMIT);
        }

        void addPrinter(int name, int city, int firstYear, int lastYear) {
            if (printers < 0 || printers >= PRINTER_LIMIT) {
                return;
            }
            names[printers] = name;
            cities[printers] = city;
            firstYears[printers] = firstYear;
            lastYears[printers] = lastYear;
            devices[printers] = 0;
            typefaces[printers] = 0;
            printers++;
        }

        void addWatermark(int start, int end) {
            if (watermarks < 0 || watermarks >= WATERMARK_LIMIT) {
                return;
            }
            watermarkStarts[watermarks] = start;
            watermarkEnds[watermarks] = end;
            watermarks++;
        }

        void addEdition(int printer, int year) {
            if (editions < 0 || editions >= EDITION_LIMIT) {
                return;
            }
            editionPrinters[editions] = printer;
            editionYears[editions] = year;
            editions++;
        }

        boolean hasPrinter(int printer) {
            return printer >= 0 && printer < printers;
        }

        boolean hasWatermark(int mark) {
            return mark >= 0 && mark < watermarks;
        }

        int nameAt(int printer) {
            return hasPrinter(printer) ? names[printer] : NO_NAME;
        }

        int printerNamed(int name) {
            for (int printer = 0; printer < printers; printer++) {
                if (names[printer] == name) {
                    return printer;
                }
            }
            return NONE;
        }

        boolean worksIn(int printer, int year) {
            return hasPrinter(printer) && isWithin(year, firstYears[printer], lastYears[printer]);
        }

        boolean ownsDevice(int printer, int device) {
            return hasPrinter(printer) && isWithin(device, 0, LAST_DEVICE)
                    && (devices[printer] >>> device & 1) != 0;
        }

        boolean ownsTypeface(int printer, int typeface) {
            return hasPrinter(printer) && isWithin(typeface, 0, LAST_TYPEFACE)
                    && (typefaces[printer] >>> typeface & 1) != 0;
        }

        void giveDevice(int printer, int device) {
            if (hasPrinter(printer) && isWithin(device, 0, LAST_DEVICE)) {
                devices[printer] |= 1 << device;
            }
        }

        void takeDevice(int printer, int device) {
            if (hasPrinter(printer) && isWithin(device, 0, LAST_DEVICE)) {
                devices[printer] &= ~(1 << device);
            }
        }

        void giveTypeface(int printer, int typeface) {
            if (hasPrinter(printer) && isWithin(typeface, 0, LAST_TYPEFACE)) {
                typefaces[printer] |= 1 << typeface;
            }
        }

        int ownersOf(int device) {
            int count = 0;
            for (int printer = 0; printer < printers; printer++) {
                if (ownsDevice(printer, device)) {
                    count++;
                }
            }
            return count;
        }

        int watermarkFrom(int mark) {
            return hasWatermark(mark) ? watermarkStarts[mark] : FIRST_YEAR;
        }

        // Paper lay in stock: a printer still used it some years after the last year of its mark.
        int watermarkUntil(int mark) {
            return hasWatermark(mark) ? watermarkEnds[mark] + WATERMARK_DELAY : LAST_YEAR;
        }

        boolean watermarkFits(int mark, int year) {
            return hasWatermark(mark) && isWithin(year, watermarkFrom(mark), watermarkUntil(mark));
        }

        int editionNear(int printer, int year) {
            for (int edition = 0; edition < editions; edition++) {
                if (editionPrinters[edition] == printer
                        && Math.abs(editionYears[edition] - year) <= EDITION_DISTANCE) {
                    return edition;
                }
            }
            return NONE;
        }

        static int lowestValue(int kind) {
            return kind == DATE ? FIRST_YEAR : 0;
        }

        int highestValue(int kind) {
            switch (kind) {
                case DEVICE:
                    return LAST_DEVICE;
                case TYPEFACE:
                    return LAST_TYPEFACE;
                case WATERMARK:
                    return watermarks - 1;
                case CITY:
                    return LAST_CITY;
                default:
                    return LAST_YEAR;
            }
        }
    }

    /** The clues and their reading order. */
    private static final class Clues {
        int count = 0;
        final int[] pages = new int[CLUE_LIMIT];
        final int[] kinds = new int[CLUE_LIMIT];
        final int[] values = new int[CLUE_LIMIT];
        final int[] weights = new int[CLUE_LIMIT];
        final boolean[] known = new boolean[CLUE_LIMIT];
        final boolean[] dropped = new boolean[CLUE_LIMIT];
        final int[] order = new int[CLUE_LIMIT];

        void copyFrom(Clues other) {
            count = other.count;
            System.arraycopy(other.pages, 0, pages, 0, CLUE_LIMIT);
            System.arraycopy(other.kinds, 0, kinds, 0, CLUE_LIMIT);
            System.arraycopy(other.values, 0, values, 0, CLUE_LIMIT);
            System.arraycopy(other.weights, 0, weights, 0, CLUE_LIMIT);
            System.arraycopy(other.order, 0, order, 0, CLUE_LIMIT);
            for (int clue = 0; clue < CLUE_LIMIT; clue++) {
                known[clue] = other.known[clue];
                dropped[clue] = other.dropped[clue];
            }
        }

        boolean has(int clue) {
            return clue >= 0 && clue < count;
        }

        boolean isFull() {
            return count < 0 || count >= CLUE_LIMIT;
        }

        void add(int page, int kind, int value, int weight) {
            if (isFull()) {
                return;
            }
            pages[count] = page;
            kinds[count] = kind;
            values[count] = value;
            weights[count] = weight;
            known[count] = false;
            dropped[count] = false;
            int place = count;
            while (place > 0 && pageAt(place - 1) < page) {
                order[place] = order[place - 1];
                place--;
            }
            order[place] = count;
            count++;
        }

        private int pageAt(int place) {
            int clue = clueAt(place);
            return has(clue) ? pages[clue] : 0;
        }

        int clueAt(int place) {
            return place >= 0 && place < count ? order[place] : NONE;
        }

        boolean isUnread(int clue) {
            return has(clue) && !known[clue];
        }

        boolean counts(int clue) {
            return has(clue) && known[clue] && !dropped[clue];
        }

        int firstUnread() {
            for (int place = 0; place < count; place++) {
                if (isUnread(order[place])) {
                    return order[place];
                }
            }
            return NONE;
        }

        int unreadCount() {
            int unread = 0;
            for (int clue = 0; clue < count; clue++) {
                if (isUnread(clue)) {
                    unread++;
                }
            }
            return unread;
        }

        void learn(int number) {
            int open = number;
            for (int place = 0; place < count && open > 0; place++) {
                int clue = order[place];
                if (isUnread(clue)) {
                    known[clue] = true;
                    open--;
                }
            }
        }
    }

    /**
     * All that save keeps. The methods that change it answer a fault, and change nothing if there
     * is one: commands have to go on quietly where the methods of the face throw.
     */
    private static final class Casebook {
        final Archive archive = new Archive();
        final Clues clues = new Clues();

        void clear() {
            archive.clear();
            clues.count = 0;
        }

        void copyFrom(Casebook other) {
            archive.copyFrom(other.archive);
            clues.copyFrom(other.clues);
        }

        int enterClue(int page, int kind, int value, int weight) {
            if (!isWithin(page, 1, LAST_PAGE) || !isWithin(weight, 1, LAST_WEIGHT)
                    || !isWithin(value, Archive.lowestValue(kind), archive.highestValue(kind))) {
                return FAULT_ARGUMENT;
            }
            if (clues.isFull()) {
                return FAULT_STATE;
            }
            clues.add(page, kind, value, weight);
            return NO_FAULT;
        }

        int readOn(int number) {
            if (!isWithin(number, 1, CLUE_LIMIT)) {
                return FAULT_ARGUMENT;
            }
            clues.learn(number);
            return NO_FAULT;
        }

        int drop(int clue) {
            if (!clues.has(clue)) {
                return FAULT_INDEX;
            }
            if (clues.dropped[clue]) {
                return FAULT_STATE;
            }
            clues.dropped[clue] = true;
            return NO_FAULT;
        }

        int pickUp(int clue) {
            if (!clues.has(clue)) {
                return FAULT_INDEX;
            }
            if (!clues.dropped[clue]) {
                return FAULT_STATE;
            }
            clues.dropped[clue] = false;
            return NO_FAULT;
        }

        int changeWeight(int clue, int weight) {
            if (!clues.has(clue)) {
                return FAULT_INDEX;
            }
            if (!isWithin(weight, 1, LAST_WEIGHT)) {
                return FAULT_ARGUMENT;
            }
            clues.weights[clue] = weight;
            return NO_FAULT;
        }

        int lend(int from, int to, int device) {
            if (!archive.hasPrinter(from) || !archive.hasPrinter(to)) {
                return FAULT_INDEX;
            }
            if (from == to) {
                return FAULT_ARGUMENT;
            }
            if (!archive.ownsDevice(from, device)) {
                return FAULT_STATE;
            }
            archive.takeDevice(from, device);
            archive.giveDevice(to, device);
            return NO_FAULT;
        }

        boolean dependsOnYear(int clue) {
            return clues.has(clue) && (clues.kinds[clue] == WATERMARK || clues.kinds[clue] == DATE);
        }

        // A clue that depends on the year alone fits every printer, and the other way round, so
        // that a candidate explains a clue if both its printer and its year fit.
        boolean printerFits(int printer, int clue) {
            if (!archive.hasPrinter(printer) || !clues.has(clue)) {
                return false;
            }
            int value = clues.values[clue];
            switch (clues.kinds[clue]) {
                case DEVICE:
                    return archive.ownsDevice(printer, value);
                case TYPEFACE:
                    return archive.ownsTypeface(printer, value);
                case CITY:
                    return archive.cities[printer] == value;
                default:
                    return true;
            }
        }

        int earliestYear(int clue) {
            if (!dependsOnYear(clue)) {
                return FIRST_YEAR;
            }
            int value = clues.values[clue];
            return clues.kinds[clue] == DATE ? value : archive.watermarkFrom(value);
        }

        int latestYear(int clue) {
            if (!dependsOnYear(clue)) {
                return LAST_YEAR;
            }
            int value = clues.values[clue];
            return clues.kinds[clue] == DATE ? value : archive.watermarkUntil(value);
        }

        boolean candidateFits(int printer, int year, int clue) {
            return printerFits(printer, clue)
                    && isWithin(year, earliestYear(clue), latestYear(clue));
        }

        boolean canBothHold(int clue, int other) {
            int from = Math.max(earliestYear(clue), earliestYear(other));
            int until = Math.min(latestYear(clue), latestYear(other));
            for (int printer = 0; printer < archive.printers; printer++) {
                if (printerFits(printer, clue) && printerFits(printer, other)
                        && Math.max(from, archive.firstYears[printer])
                                <= Math.min(until, archive.lastYears[printer])) {
                    return true;
                }
            }
            return false;
        }
    }

    /** The casebooks before the most recent operations, in a ring. */
    private static final class History {
        // One row more than can be undone, so that an operation that is refused in the end has
        // not overwritten the oldest one.
        private static final int ROWS = UNDO_LIMIT + 1;

        final Casebook[] rows = new Casebook[ROWS];
        int next = 0;
        int count = 0;

        History() {
            for (int row = 0; row < rows.length; row++) {
                rows[row] = new Casebook();
            }
        }

        void prepare(Casebook book) {
            if (next >= 0 && next < rows.length && rows[next] != null) {
                rows[next].copyFrom(book);
            }
        }

        void commit() {
            next = next + 1 < ROWS ? next + 1 : 0;
            count = Math.min(count + 1, UNDO_LIMIT);
        }

        void bringBack(Casebook book) {
            next = next > 0 ? next - 1 : ROWS - 1;
            count = Math.max(count - 1, 0);
            if (next < rows.length && rows[next] != null) {
                book.copyFrom(rows[next]);
            }
        }

        void forget() {
            count = 0;
        }
    }

    /** Parses a configuration text. */
    private static final class ConfigurationReader {
        // The statements by the order in which they have to come.
        private static final int PRINTERS = 0;
        private static final int DEVICES = 1;
        private static final int TYPEFACES = 2;
        private static final int WATERMARKS = 3;
        private static final int EDITIONS = 4;
        private static final int CLUES = 5;

        final Casebook draft = new Casebook();

        boolean fillFrom(InputText text) {
            draft.clear();
            text.startParsing();
            int section = PRINTERS;
            for (int tokens = 0; tokens < TEXT_LIMIT && text.hasMore(); tokens++) {
                int next = sectionAt(text);
                int last = draft.archive.printers == 0 ? PRINTERS : CLUES;
                if (!isWithin(next, section, last)) {
                    text.fail(SYNTAX_ERROR);
                } else if (isFull(next)) {
                    text.fail(LIMIT_ERROR);
                } else {
                    section = next;
                    text.takeToken();
                    takeStatement(text, section);
                }
            }
            if (draft.archive.printers == 0) {
                text.fail(SYNTAX_ERROR);
            }
            return text.isSound();
        }

        private static int sectionAt(InputText text) {
            if (text.isAt("printer")) {
                return PRINTERS;
            }
            if (text.isAt("device")) {
                return DEVICES;
            }
            if (text.isAt("type")) {
                return TYPEFACES;
            }
            if (text.isAt("mark")) {
                return WATERMARKS;
            }
            if (text.isAt("edition")) {
                return EDITIONS;
            }
            return text.isAt("clue") ? CLUES : NONE;
        }

        private boolean isFull(int section) {
            switch (section) {
                case PRINTERS:
                    return draft.archive.printers >= PRINTER_LIMIT;
                case WATERMARKS:
                    return draft.archive.watermarks >= WATERMARK_LIMIT;
                case EDITIONS:
                    return draft.archive.editions >= EDITION_LIMIT;
                case CLUES:
                    return draft.clues.isFull();
                default:
                    return false;
            }
        }

        private void takeStatement(InputText text, int section) {
            switch (section) {
                case PRINTERS:
                    takePrinterStatement(text);
                    break;
                case WATERMARKS:
                    takeWatermarkStatement(text);
                    break;
                case CLUES:
                    takeClueStatement(text);
                    break;
                default:
                    takeStatementOfPrinter(text, section);
                    break;
            }
        }

        private void takePrinterStatement(InputText text) {
            int name = text.takeNewName(draft.archive);
            int city = text.takeNumber(0, LAST_CITY);
            int firstYear = text.takeNumber(FIRST_YEAR, LAST_YEAR);
            int lastYear = text.takeNumber(firstYear, LAST_YEAR);
            if (text.takeSemicolon()) {
                draft.archive.addPrinter(name, city, firstYear, lastYear);
            }
        }

        private void takeWatermarkStatement(InputText text) {
            int firstYear = text.takeNumber(FIRST_YEAR, LAST_YEAR);
            int lastYear = text.takeNumber(firstYear, LAST_YEAR);
            if (text.takeSemicolon()) {
                draft.archive.addWatermark(firstYear, lastYear);
            }
        }

        private void takeStatementOfPrinter(InputText text, int section) {
            int printer = text.takePrinter(draft.archive);
            int low = section == EDITIONS ? FIRST_YEAR : 0;
            int high = section == EDITIONS ? LAST_YEAR
                    : section == DEVICES ? LAST_DEVICE : LAST_TYPEFACE;
            int value = text.takeNumber(low, high);
            if (!text.takeSemicolon()) {
                return;
            }
            if (section == DEVICES) {
                draft.archive.giveDevice(printer, value);
            } else if (section == TYPEFACES) {
                draft.archive.giveTypeface(printer, value);
            } else {
                draft.archive.addEdition(printer, value);
            }
        }

        private void takeClueStatement(InputText text) {
            int page = text.takeNumber(1, LAST_PAGE);
            int kind = text.takeKind();
            int value = text.takeNumber(Archive.lowestValue(kind), draft.archive.highestValue(kind));
            int weight = text.takeNumber(1, LAST_WEIGHT);
            if (text.takeSemicolon()) {
                draft.clues.add(page, kind, value, weight);
            }
        }
    }

    /** The commands of a command text: a verb and up to four numbers for each. */
    private static final class CommandList {
        static final int CLUE = 0;
        static final int READ = 1;
        static final int ASIDE = 2;
        static final int BACK = 3;
        static final int WEIGH = 4;
        static final int LEND = 5;

        int count = 0;
        final int[] verbs = new int[COMMAND_LIMIT];
        final int[] first = new int[COMMAND_LIMIT];
        final int[] second = new int[COMMAND_LIMIT];
        final int[] third = new int[COMMAND_LIMIT];
        final int[] fourth = new int[COMMAND_LIMIT];

        boolean fillFrom(InputText text, Archive archive) {
            count = 0;
            text.startParsing();
            for (int tokens = 0; tokens < TEXT_LIMIT && text.hasMore(); tokens++) {
                int verb = verbAt(text);
                if (verb == NONE) {
                    text.fail(SYNTAX_ERROR);
                } else if (count >= COMMAND_LIMIT) {
                    text.fail(LIMIT_ERROR);
                } else {
                    text.takeToken();
                    takeCommand(text, archive, verb);
                }
            }
            return text.isSound();
        }

        private static int verbAt(InputText text) {
            if (text.isAt("clue")) {
                return CLUE;
            }
            if (text.isAt("read")) {
                return READ;
            }
            if (text.isAt("aside")) {
                return ASIDE;
            }
            if (text.isAt("back")) {
                return BACK;
            }
            if (text.isAt("weigh")) {
                return WEIGH;
            }
            return text.isAt("lend") ? LEND : NONE;
        }

        private void takeCommand(InputText text, Archive archive, int verb) {
            if (count < 0 || count >= COMMAND_LIMIT) {
                return;
            }
            verbs[count] = verb;
            switch (verb) {
                case CLUE:
                    takeClueNumbers(text, archive);
                    break;
                case READ:
                    first[count] = text.takeNumber(1, CLUE_LIMIT);
                    break;
                case WEIGH:
                    first[count] = text.takeNumber(0, CLUE_LIMIT - 1);
                    second[count] = text.takeNumber(1, LAST_WEIGHT);
                    break;
                case LEND:
                    first[count] = text.takePrinter(archive);
                    second[count] = text.takePrinter(archive);
                    third[count] = text.takeNumber(0, LAST_DEVICE);
                    break;
                default:
                    first[count] = text.takeNumber(0, CLUE_LIMIT - 1);
                    break;
            }
            if (text.takeSemicolon()) {
                count++;
            }
        }

        private void takeClueNumbers(InputText text, Archive archive) {
            if (count < 0 || count >= COMMAND_LIMIT) {
                return;
            }
            first[count] = text.takeNumber(1, LAST_PAGE);
            int kind = text.takeKind();
            second[count] = kind;
            third[count] = text.takeNumber(Archive.lowestValue(kind), archive.highestValue(kind));
            fourth[count] = text.takeNumber(1, LAST_WEIGHT);
        }
    }

    /** Finds the best years, the ranking and the verdict, and keeps them until it is asked again. */
    private static final class Judge {
        final boolean[] heeded = new boolean[CLUE_LIMIT];
        // One row more than there are years, for the end of a span that lasts to the last year.
        final int[] yearWeights = new int[YEAR_COUNT + 1];
        final int[] topYears = new int[PRINTER_LIMIT];
        final int[] topScores = new int[PRINTER_LIMIT];
        final int[] topYearCounts = new int[PRINTER_LIMIT];
        int printers = 0;
        final int[] ranking = new int[PRINTER_LIMIT];

        /** Judges as if more clues had been read, and one (or NONE) were set aside. */
        void weigh(Casebook book, int moreClues, int without) {
            heed(book.clues, moreClues, without);
            sumYears(book);
            printers = 0;
            for (int printer = 0; printer < book.archive.printers; printer++) {
                findTopYear(book.archive, printer);
                topScores[printer] += yearlessWeight(book, printer);
                rank(printer);
            }
        }

        private void heed(Clues clues, int moreClues, int without) {
            int open = moreClues;
            for (int place = 0; place < clues.count; place++) {
                int clue = clues.clueAt(place);
                if (clues.has(clue)) {
                    boolean isUnread = clues.isUnread(clue);
                    boolean isRead = !isUnread || open > 0;
                    heeded[clue] = isRead && !clues.dropped[clue] && clue != without;
                    if (isUnread) {
                        open--;
                    }
                }
            }
        }

        // Spans of years are entered at their two ends alone and summed up once: much cheaper
        // than asking each year for each clue, and predictions ask up to 40 times.
        private void sumYears(Casebook book) {
            Arrays.fill(yearWeights, 0);
            for (int clue = 0; clue < book.clues.count; clue++) {
                if (heeded[clue] && book.dependsOnYear(clue)) {
                    yearWeights[rowOf(book.earliestYear(clue))] += book.clues.weights[clue];
                    yearWeights[rowOf(book.latestYear(clue) + 1)] -= book.clues.weights[clue];
                }
            }
            for (int row = 1; row < yearWeights.length; row++) {
                yearWeights[row] += yearWeights[row - 1];
            }
        }

        private static int rowOf(int year) {
            return Math.max(0, Math.min(year - FIRST_YEAR, YEAR_COUNT));
        }

        private void findTopYear(Archive archive, int printer) {
            int firstRow = rowOf(archive.firstYears[printer]);
            int lastRow = rowOf(archive.lastYears[printer]);
            int topRow = firstRow;
            int count = 0;
            for (int row = firstRow; row <= lastRow; row++) {
                if (yearWeights[row] > yearWeights[topRow]) {
                    topRow = row;
                    count = 0;
                }
                if (yearWeights[row] == yearWeights[topRow]) {
                    count++;
                }
            }
            topYears[printer] = FIRST_YEAR + topRow;
            topScores[printer] = yearWeights[topRow];
            topYearCounts[printer] = count;
        }

        private int yearlessWeight(Casebook book, int printer) {
            int sum = 0;
            for (int clue = 0; clue < book.clues.count; clue++) {
                if (heeded[clue] && !book.dependsOnYear(clue) && book.printerFits(printer, clue)) {
                    sum += book.clues.weights[clue];
                }
            }
            return sum;
        }

        private void rank(int printer) {
            if (printers < 0 || printers >= PRINTER_LIMIT) {
                return;
            }
            int place = printers;
            printers++;
            while (place > 0 && scoreAt(place - 1) < topScores[printer]) {
                ranking[place] = ranking[place - 1];
                place--;
            }
            ranking[place] = printer;
        }

        int printerAt(int place) {
            return place >= 0 && place < printers ? ranking[place] : NONE;
        }

        int scoreAt(int place) {
            int printer = printerAt(place);
            return isWithin(printer, 0, PRINTER_LIMIT - 1) ? topScores[printer] : 0;
        }

        boolean isInOrder(int place) {
            return scoreAt(place - 1) > scoreAt(place)
                    || scoreAt(place - 1) == scoreAt(place) && printerAt(place - 1) < printerAt(place);
        }

        int winner() {
            return printerAt(0);
        }

        int winningYear() {
            int printer = printerAt(0);
            return isWithin(printer, 0, PRINTER_LIMIT - 1) ? topYears[printer] : FIRST_YEAR;
        }

        int winningScore() {
            return scoreAt(0);
        }

        boolean heeds(int clue) {
            return isWithin(clue, 0, CLUE_LIMIT - 1) && heeded[clue];
        }

        boolean leavesOpen(Casebook book, int clue) {
            return heeds(clue) && !book.candidateFits(winner(), winningYear(), clue);
        }
    }

    /** The output of the last formatting. */
    private static final class OutputText {
        private static final int HIGHEST_UNIT = 1000;

        final byte[] bytes = new byte[OUTPUT_LIMIT];
        int length = 0;

        void clear() {
            length = 0;
        }

        void put(int value) {
            if (length >= 0 && length < bytes.length) {
                bytes[length] = (byte) value;
                length++;
            }
        }

        void putName(int name) {
            for (int letter = NAME_LENGTH - 1; letter >= 0; letter--) {
                int number = name >>> LETTER_BITS * letter & LETTER_MASK;
                if (number != 0) {
                    put('a' + number - 1);
                }
            }
        }

        void putNumber(int number) {
            for (int unit = HIGHEST_UNIT; unit > 0; unit /= 10) {
                if (number >= unit || unit == 1) {
                    put('0' + number / unit % 10);
                }
            }
        }

        int byteAt(int index) {
            return index >= 0 && index < length ? bytes[index] : NONE;
        }
    }
}
