/** The boundary cases that the terms name for the two texts: a configuration and a command text. */
public final class TextEdgeTest {
    private static final String ONE = Texts.PRINTER;
    private static final int SYNTAX = Texts.SYNTAX;
    private static final int RANGE = Texts.RANGE;
    private static final int NAME = Texts.NAME;
    private static final int LIMIT = Texts.LIMIT;

    // All statements and all commands, and below each token what has its place there: a Word, a New
    // name, a Printer, a Digit (a number), or a semicolon.
    private static final String STATEMENTS = "printer a 1 1500 1510 ; device a 1 ; type a 1 ; mark 1500 1510 ; "
            + "edition a 1500 ; clue 5 device 1 1 ; clue 5 type 1 1 ; clue 5 mark 0 1 ; clue 5 city 1 1 ; "
            + "clue 5 year 1500 1 ;";
    private static final String PLACES = "WNDDD;WPD;WPD;WDD;WPD;WDWDD;WDWDD;WDWDD;WDWDD;WDWDD;";
    private static final String COMMANDS = "read 1 ; aside 0 ; back 0 ; weigh 0 1 ; lend aldus estien 4 ; "
            + "clue 5 device 1 1 ; clue 5 type 1 1 ; clue 5 mark 0 1 ; clue 5 city 1 1 ; clue 5 year 1500 1 ;";
    private static final String COMMAND_PLACES = "WD;WD;WD;WDD;WPPD;WDWDD;WDWDD;WDWDD;WDWDD;WDWDD;";
    private static final String[] VERBS = {"clue", "read", "aside", "back", "weigh", "lend"};

    public static void main(String[] args) {
        statementsInOrder();
        countsOfStatements();
        kinds();
        names();
        ownedAgain();
        bytesOfTokens();
        spacesEverywhere();
        spacesBetween();
        firstError();
        positionOfAnError();
        textThatEndsTooEarly();
        smallestCode();
        invalidBytes();
        tokensOutOfPlace();
        longNamesAndNumbers();
        numbersOutsideTheirRange();
        watermarksThatDoNotExist();
        namesThatCannotBeUsed();
        limits();
        Document.wasTested("Configuration text");
        commandsAndSemicolons();
        numbersOfCommands();
        deviceOfLend();
        errorsOfCommands();
        thirtyFirstCommand();
        calledMethods();
        oneAfterTheOther();
        stoppedExecution();
        stoppedByEachRefusal();
        Document.wasTested("Commands");
        Check.finish("TextEdgeTest");
    }

    private static void about(String words) {
        Document.about("Configuration text", words);
    }

    // ---- the statements

    private static void statementsInOrder() {
        about("A configuration consists of the following statements, in this order");
        String[] statements = {"printer b 2 1500 1501;", "device a 1;", "type a 1;", "mark 1500 1501;",
            "edition a 1500;", "clue 5 city 3 9;"};
        for (int first = 0; first < statements.length; first++) {
            for (int second = 0; second < statements.length; second++) {
                String text = ONE + statements[first];
                if (second < first) {
                    Texts.faultyAt(text + "|" + statements[second], SYNTAX);
                } else if (second > 0) {
                    Texts.sound(text + statements[second], (first == 5 ? 1 : 0) + (second == 5 ? 1 : 0));
                }
            }
            if (first > 0) {
                Texts.faultyAt("|" + statements[first], SYNTAX);
            }
            Texts.faultyAt(ONE + "|x" + statements[first].substring(1), SYNTAX);
        }
    }

    private static void countsOfStatements() {
        about("1 to 8 times \"printer NAME C F L;\"");
        Texts.faultyAt("|", SYNTAX);
        Texts.sound(ONE, 0);
        Texts.sound(Texts.printers(8), 0);
        about("any number of times \"device NAME N;\"");
        Texts.sound(ONE + "type a 1;", 0);
        Texts.sound(ONE + "device a 1;".repeat(125), 0);
        about("any number of times \"type NAME N;\"");
        Texts.sound(ONE + "mark 1500 1500;", 0);
        Texts.sound(ONE + "type a 1;".repeat(150), 0);
        about("up to 8 times \"mark F L;\"");
        Texts.sound(ONE + "edition a 1500;", 0);
        Texts.sound(ONE + "mark 1500 1500;".repeat(8), 0);
        about("up to 12 times \"edition NAME Y;\"");
        Texts.sound(ONE + "clue 1 city 1 1;", 1);
        Texts.sound(ONE + "edition a 1500;".repeat(12), 0);
        about("up to 40 times \"clue G KIND V W;\"");
        Texts.sound(ONE + "edition a 1500;", 0);
        Texts.sound(ONE + "clue 1 city 1 1;".repeat(40), 40);
    }

    private static void kinds() {
        about("KIND is one of the words device, type, mark, city and year.");
        String[] words = {"devic", "devices", "xevice", "typ", "types", "xype", "mar", "marks", "xark", "cit", "citys",
            "xity", "yea", "years", "xear", "date", "watermark", "typeface", "clue", "a", "printer"};
        for (String word : words) {
            Texts.faultyAt(ONE + "mark 1500 1500;clue 1 |" + word + " 0 1;", SYNTAX);
            Texts.faultyCommands("clue 1 |" + word + " 0 1;", SYNTAX);
        }
    }

    private static void names() {
        about("NAME is the name of a printer.");
        String[] words = {"device", "type", "mark", "clue", "city", "year", "a", "b"};
        StringBuilder text = new StringBuilder();
        for (String word : words) {
            text.append("printer ").append(word).append(" 1 1500 1510;");
        }
        for (int number = 0; number < words.length; number++) {
            text.append("device ").append(words[number]).append(' ').append(number).append(';');
        }
        ColophonDetective x = Check.detectiveOf(text.toString());
        for (int printer = 0; printer < words.length; printer++) {
            for (int number = 0; number < words.length; number++) {
                Check.due(words[printer] + " " + number, x.hasDevice(printer, number), printer == number);
            }
        }
    }

    private static void ownedAgain() {
        about("It does no harm if a printer gets a device or a typeface again.");
        ColophonDetective x = Check.detectiveOf(Texts.printers(2) + "device a 3;device b 3;device a 3;device a 3;"
                + "type b 3;type b 3;");
        Check.due("the device", x.hasDevice(0, 3), true);
        Check.due("its owners", x.deviceOwners(3), 2);
        Check.due("it is handed over once", x.transferDevice(0, 1, 3), 1);
        Check.due("it is gone", x.hasDevice(0, 3), false);
        Check.due("the typeface", x.hasTypeface(1, 3), true);
    }

    // ---- tokens

    private static void bytesOfTokens() {
        about("The tokens are words (maximal sequences of the letters a to z), numbers (maximal sequences of digits) and "
                + "semicolons.");
        Texts.sound("printer az 1 1500 1510;device az 0;device az 9;clue1city1 1;", 1);
        Texts.sound("printer a 1 1500 1510;device a 0009;", 0);
        for (int code = 0; code < 256; code++) {
            char sign = (char) code;
            if (sign >= 'a' && sign <= 'z') {
                ColophonDetective x = Check.detectiveOf("printer " + sign + " 1 1500 1510;");
                Check.send(x, 0, "" + sign);
                Check.due("letter " + sign, x.findPrinter(), 0);
            } else if (sign >= '0' && sign <= '9') {
                Check.due("digit " + sign, Check.detectiveOf("printer a " + sign + " 1500 1510;").cityOf(0), sign - '0');
            } else if (sign != ' ' && sign != ';') {
                Texts.faultyAt("printer a|" + sign + " 1 1500 1510;", SYNTAX);
                Texts.faultyAt("printer a 1|" + sign + " 1500 1510;", SYNTAX);
            }
        }
    }

    private static void spacesEverywhere() {
        about("Spaces (byte 32) may stand before and after each token.");
        Texts.sound(STATEMENTS, 5);
        Texts.sound("   " + STATEMENTS.replace(" ", "   ") + "   ", 5);
        Texts.sound(STATEMENTS.replace(" ; ", ";"), 5);
        Texts.sound(" ".repeat(1400 - ONE.length()) + ONE, 0);
        Texts.sound(ONE + " ".repeat(1400 - ONE.length()), 0);
        Texts.soundCommands("   " + COMMANDS.replace(" ", "   ") + "   ", 10);
        for (char sign : new char[] {'\t', '\n', '\r', '\0', 31, 33, 160}) {
            Texts.faultyAt("|" + sign + ONE, SYNTAX);
            Texts.faultyAt(ONE + "|" + sign, SYNTAX);
            Texts.faultyAt("printer|" + sign + "a 1 1500 1510;", SYNTAX);
            Texts.faultyAt("printer a 1 1500 1510|" + sign + ";", SYNTAX);
            Texts.faultyCommands("read|" + sign + "1;", SYNTAX);
        }
    }

    private static void spacesBetween() {
        about("Two words, or two numbers, must be separated by a space.");
        Texts.sound("printer a1 1500 1510;", 0);
        Texts.faultyAt("|printera 1 1500 1510;", SYNTAX);
        Texts.faultyAt("printer a1 |15001510;", SYNTAX);
        Texts.faultyAt("printer a |11500 1510;", SYNTAX);
        Texts.faultyAt("printer a 1 1500 1510;mark 1500 1510;clue 1 mark |01;", RANGE);
        Texts.faultyAt("printer a 1 1500 1510;clue 1 city |11;", RANGE);
        Texts.soundCommands("clue1city1 1;read1;lend aldus estien4;", 3);
        Texts.faultyCommands("lend |aldusestien 4;", SYNTAX);
        Texts.faultyCommands("|readread 1;", SYNTAX);
        Texts.faultyCommands("weigh 11|;", SYNTAX);
    }

    // ---- errors

    private static void firstError() {
        about("The text is parsed from left to right, and parsing stops at the first error.");
        Texts.faultyAt("printer a |10 1 1;#", RANGE);
        Texts.faultyAt(ONE + "device |z 99;#", NAME);
        Texts.faultyAt(ONE + "device a |99999;device z 1;", SYNTAX);
        Texts.faultyAt(Texts.printers(8) + "|printer a 99;#", LIMIT);
        Texts.faultyCommands("read |0;read 99999;#", RANGE);
        Texts.faultyCommands("lend |z zz 99;", NAME);
    }

    private static void positionOfAnError() {
        about("The position of an error is the index of the first byte of the token that causes it");
        Texts.faultyAt("|#", SYNTAX);
        Texts.faultyAt("   |abc", SYNTAX);
        Texts.faultyAt("printer   |abcdefg", SYNTAX);
        Texts.faultyAt("printer a   |12345", SYNTAX);
        Texts.faultyAt(ONE + "device a   |32;", RANGE);
        Texts.faultyAt(ONE + "device   |b 1;", NAME);
        Texts.faultyAt(ONE + "clue 1 city 1 1;".repeat(40) + "   |clue", LIMIT);
        Texts.faultyAt(ONE + " ".repeat(1399 - ONE.length()) + "|#", SYNTAX);
        Texts.faultyAt("printer a |" + "1".repeat(1390), SYNTAX);
        Texts.faultyCommands("read   |41;", RANGE);
    }

    private static void textThatEndsTooEarly() {
        about("or the length of the text if the text ends too early.");
        for (String spaces : new String[] {"", " ", "      "}) {
            Texts.faultyAt(spaces + "|", SYNTAX);
            cutAfterEachToken(STATEMENTS, spaces, true);
            cutAfterEachToken(COMMANDS, spaces, false);
        }
        Texts.faultyAt(" ".repeat(1400) + "|", SYNTAX);
        Texts.faultyAt("printer a 1 1500 1510" + " ".repeat(1379) + "|", SYNTAX);
    }

    private static void cutAfterEachToken(String text, String spaces, boolean isConfiguration) {
        for (int end = text.indexOf(' '); end >= 0; end = text.indexOf(' ', end + 1)) {
            if (text.charAt(end - 1) != ';') {
                String cut = text.substring(0, end) + spaces + "|";
                if (isConfiguration) {
                    Texts.faultyAt(cut, SYNTAX);
                } else {
                    Texts.faultyCommands("read 1;" + cut, SYNTAX);
                }
            }
        }
    }

    private static void smallestCode() {
        about("If several errors apply to one token, the error with the smallest code is reported.");
        Texts.faultyAt("printer a |99999 1500 1510;", SYNTAX);
        Texts.faultyAt(ONE + "device |unknown 1;", SYNTAX);
        Texts.faultyAt(ONE + "device |1 99;", SYNTAX);
        Texts.faultyAt(Texts.printers(8) + "device a 1;|printer a 1 1500 1510;", SYNTAX);
        Texts.faultyAt(ONE + "mark 1500 1500;".repeat(8) + "edition a 1500;|mark 1 1;", SYNTAX);
        Texts.faultyAt(ONE + "edition a 1500;".repeat(12) + "clue 1 city 1 1;|edition z 1;", SYNTAX);
        Texts.faultyCommands("read |00000;", SYNTAX);
        Texts.faultyCommands("lend |unknown aldus 4;", SYNTAX);
    }

    private static void invalidBytes() {
        about("SYNTAX_ERROR: an invalid byte");
        for (char sign : new char[] {'#', '-', 'A', '.', 0, 127, 128, 255}) {
            inEachPlace(STATEMENTS, "" + sign, true);
            inEachPlace(COMMANDS, "" + sign, false);
        }
    }

    /** Puts one token in the place of each token in turn: a SYNTAX_ERROR each time. */
    private static void inEachPlace(String text, String token, boolean isConfiguration) {
        for (int start = 0; start >= 0; start = nextStart(text, start)) {
            syntaxError(text, start, token, isConfiguration);
        }
    }

    private static int nextStart(String text, int start) {
        int space = text.indexOf(' ', start);
        return space < 0 ? -1 : space + 1;
    }

    private static void syntaxError(String text, int start, String token, boolean isConfiguration) {
        replaced(text, start, token, isConfiguration, SYNTAX);
    }

    private static void replaced(String text, int start, String token, boolean isConfiguration, int code) {
        int space = text.indexOf(' ', start);
        String barred = text.substring(0, start) + "|" + token + (space < 0 ? "" : text.substring(space));
        if (isConfiguration) {
            Texts.faultyAt(barred, code);
        } else {
            Texts.faultyCommands("read 1;" + barred, code);
        }
    }

    private static void tokensOutOfPlace() {
        about("a token that is not expected at its place");
        outOfPlace(STATEMENTS, PLACES, true);
        outOfPlace(COMMANDS, COMMAND_PLACES, false);
    }

    private static void outOfPlace(String text, String places, boolean isConfiguration) {
        int start = 0;
        for (char place : places.toCharArray()) {
            if (place != 'N' && place != 'P') {
                syntaxError(text, start, "word", isConfiguration);
            }
            if (place != 'D') {
                syntaxError(text, start, "7", isConfiguration);
            }
            if (place != ';') {
                syntaxError(text, start, ";", isConfiguration);
            }
            start = nextStart(text, start);
        }
        Check.due("places of " + text, start, -1);
    }

    private static void longNamesAndNumbers() {
        about("a name with more than 6 letters, or a number with more than 4 digits.");
        inPlaces(STATEMENTS, PLACES, 'N', "abcdefg", true, SYNTAX);
        inPlaces(STATEMENTS, PLACES, 'P', "aaaaaaa", true, SYNTAX);
        inPlaces(STATEMENTS, PLACES, 'P', "a".repeat(300), true, SYNTAX);
        inPlaces(STATEMENTS, PLACES, 'D', "00001", true, SYNTAX);
        inPlaces(STATEMENTS, PLACES, 'D', "01500", true, SYNTAX);
        inPlaces(STATEMENTS, PLACES, 'D', "10000", true, SYNTAX);
        inPlaces(STATEMENTS, PLACES, 'D', "4294967297", true, SYNTAX);
        inPlaces(COMMANDS, COMMAND_PLACES, 'P', "alduses", false, SYNTAX);
        inPlaces(COMMANDS, COMMAND_PLACES, 'D', "00001", false, SYNTAX);
        inPlaces(COMMANDS, COMMAND_PLACES, 'D', "4294967297", false, SYNTAX);
        Texts.sound("printer abcdef 0001 1500 1510;device abcdef 0031;", 0);
    }

    private static void inPlaces(String text, String places, char wanted, String token, boolean isConfiguration,
            int code) {
        int start = 0;
        for (char place : places.toCharArray()) {
            if (place == wanted) {
                replaced(text, start, token, isConfiguration, code);
            }
            start = nextStart(text, start);
        }
    }

    private static void numbersOutsideTheirRange() {
        about("RANGE_ERROR: a number outside its range");
        inPlaces(STATEMENTS, PLACES, 'D', "2000", true, RANGE);
        inPlaces(STATEMENTS, PLACES, 'D', "9999", true, RANGE);
        inPlaces(COMMANDS, COMMAND_PLACES, 'D', "2000", false, RANGE);
        inPlaces(COMMANDS, COMMAND_PLACES, 'D', "9999", false, RANGE);
        Texts.faultyAt("printer a 1 |0 0;", RANGE);
        Texts.faultyAt("printer a 1 1500 |0000;", RANGE);
    }

    private static void watermarksThatDoNotExist() {
        about("(a watermark that does not exist, too)");
        Texts.faultyAt(ONE + "clue 1 mark |0 1;", RANGE);
        for (int count = 1; count <= 8; count++) {
            String text = ONE + "mark 1500 1500;".repeat(count);
            Texts.sound(text + "clue 1 mark " + (count - 1) + " 1;", 1);
            Texts.faultyAt(text + "clue 1 mark |" + count + " 1;", RANGE);
        }
        Texts.soundCommands("clue 1 mark 1 1;", 1);
        Texts.faultyCommands("clue 1 mark |2 1;", RANGE);
        ColophonDetective none = Check.detectiveOf(ONE);
        Check.noArgument("the watermarks are those of now", () -> Check.run(none, "clue 1 mark 0 1;"));
        Check.due("the watermarks are those of now", none.errorCode(), RANGE);
    }

    private static void namesThatCannotBeUsed() {
        about("NAME_ERROR: the name of a new printer that another one has, or a name that no printer has.");
        for (int printer = 0; printer < 7; printer++) {
            Texts.faultyAt(Texts.printers(7) + "printer |" + (char) ('a' + printer) + " 1 1500 1510;", NAME);
        }
        for (String name : new String[] {"b", "aa", "ab", "ba", "zzzzzz", "device"}) {
            inPlaces(STATEMENTS, PLACES, 'P', name, true, NAME);
        }
        for (String name : new String[] {"a", "aldu", "alduss", "plantm", "elantn"}) {
            inPlaces(COMMANDS, COMMAND_PLACES, 'P', name, false, NAME);
        }
        ColophonDetective x = Check.detectiveOf(Texts.printers(2));
        Check.noArgument("the printers are those of now", () -> Check.run(x, "lend aldus a 4;"));
        Check.due("the printers are those of now", x.errorCode(), NAME);
    }

    private static void limits() {
        about("LIMIT_ERROR: the first word of the statement of a 9th printer, a 9th watermark, a 13th edition or a 41st "
                + "clue.");
        String[] full = {Texts.printers(8) + "|printer", ONE + "mark 1500 1500;".repeat(8) + "|mark",
            ONE + "edition a 1500;".repeat(12) + "|edition", ONE + "clue 1 city 1 1;".repeat(40) + "|clue"};
        for (String barred : full) {
            Texts.faultyAt(barred, LIMIT);
            Texts.faultyAt(barred + " #", LIMIT);
            Texts.faultyAt(barred + "1", LIMIT);
            Texts.faultyAt(barred + "s", SYNTAX);
        }
        Texts.sound(Texts.printers(8) + "device a 1;", 0);
        Texts.sound(ONE + "mark 1500 1500;".repeat(8) + "clue 1 mark 7 1;", 1);
        Texts.sound(ONE + "edition a 1500;".repeat(12) + "clue 1 city 1 1;", 1);
    }

    // ---- commands

    private static void aboutCommands(String words) {
        Document.about("Commands", words);
    }

    private static void commandsAndSemicolons() {
        aboutCommands("A command text has at most 30 commands, each followed by a semicolon");
        Texts.soundCommands("", 0);
        Texts.soundCommands("    ", 0);
        Texts.soundCommands("read 1;", 1);
        Texts.soundCommands("read 1;".repeat(30), 30);
        Texts.faultyCommands("read 1;".repeat(30) + "|read 1;", LIMIT);
        Texts.faultyCommands("read 1;read 1|", SYNTAX);
        Texts.faultyCommands("read 1 |read 1;", SYNTAX);
        Texts.faultyCommands("|;", SYNTAX);
        Texts.faultyCommands("read 1;|;", SYNTAX);
    }

    private static void numbersOfCommands() {
        aboutCommands("\"read N\" (1 to 40)");
        Texts.soundCommands("read 1;read 40;", 2);
        Texts.faultyCommands("read |0;", RANGE);
        Texts.faultyCommands("read |41;", RANGE);
        aboutCommands("(K is the number of a clue, 0 to 39; N of lend is a device)");
        ColophonDetective full = Check.detectiveOf(ONE + "clue 1 city 1 1;".repeat(40));
        Check.due("the clues 0 and 39", Check.run(full, "aside 0;aside 39;back 0;back 39;weigh 0 1;weigh 39 9;"), 6);
        Texts.faultyCommands("aside |40;", RANGE);
        Texts.faultyCommands("back |40;", RANGE);
        Texts.faultyCommands("weigh |40 1;", RANGE);
        Texts.faultyCommands("weigh 0 |0;", RANGE);
        Texts.faultyCommands("weigh 0 |10;", RANGE);
        Check.due("a number of no clue yet is no error", Check.run(new ColophonDetective(), "aside 39;"), 0);
    }

    private static void deviceOfLend() {
        aboutCommands("N of lend is a device");
        ColophonDetective x = Check.detectiveOf(Texts.printers(2) + "device a 0;device a 31;");
        Check.due("the devices 0 and 31", Check.run(x, "lend a b 0;lend a b 31;"), 2);
        Check.due("device 0", x.hasDevice(1, 0), true);
        Check.due("device 31", x.hasDevice(1, 31), true);
        Texts.faultyCommands("lend aldus estien |32;", RANGE);
    }

    private static void errorsOfCommands() {
        aboutCommands("The tokens, SYNTAX_ERROR, RANGE_ERROR and NAME_ERROR are those of the configuration.");
        Texts.faultyCommands("read |00001;", SYNTAX);
        Texts.faultyCommands("lend aldus |estienn 4;", SYNTAX);
        Texts.faultyCommands("lend aldus |esti 4;", NAME);
        Texts.faultyCommands("clue |0 city 1 1;", RANGE);
        Texts.faultyCommands("clue |1000 city 1 1;", RANGE);
        Texts.faultyCommands("clue 1 device |32 1;", RANGE);
        Texts.faultyCommands("clue 1 type |16 1;", RANGE);
        Texts.faultyCommands("clue 1 mark |2 1;", RANGE);
        Texts.faultyCommands("clue 1 city |10 1;", RANGE);
        Texts.faultyCommands("clue 1 year |1449 1;", RANGE);
        Texts.faultyCommands("clue 1 year |2000 1;", RANGE);
        Texts.faultyCommands("clue 1 city 1 |0;", RANGE);
        Texts.faultyCommands("clue 1 city 1 |10;", RANGE);
        for (String word : new String[] {"printer", "device", "type", "mark", "edition"}) {
            Texts.faultyCommands("|" + word + " aldus 1;", SYNTAX);
        }
        for (String word : VERBS) {
            Texts.faultyCommands("|" + word + "s 1;", SYNTAX);
            Texts.faultyCommands("|" + word.substring(1) + " 1;", SYNTAX);
            Texts.faultyCommands("|x" + word.substring(1) + " 1;", SYNTAX);
        }
    }

    private static void thirtyFirstCommand() {
        aboutCommands("The first word of a 31st command is a LIMIT_ERROR if it is the name of a command.");
        for (String word : VERBS) {
            Texts.faultyCommands("read 1;".repeat(30) + "|" + word, LIMIT);
            Texts.faultyCommands("read 1;".repeat(30) + "  |" + word + " #", LIMIT);
            Texts.faultyCommands("read 1;".repeat(29) + word + "|", SYNTAX);
            Texts.faultyCommands("read 1;".repeat(30) + "|" + word + "x 1;", SYNTAX);
        }
        for (String token : new String[] {"printer", "mark", "undo", "1", ";", "#", "abcdefg"}) {
            Texts.faultyCommands("read 1;".repeat(30) + "|" + token, SYNTAX);
        }
    }

    private static void calledMethods() {
        aboutCommands("The command clue calls addDeviceClue, addTypefaceClue, addWatermarkClue, addCityClue or "
                + "addDateClue; the others call read, setAside, takeBack, setWeight and transferDevice.");
        ColophonDetective x = new ColophonDetective();
        ColophonDetective y = new ColophonDetective();
        Check.run(x, "clue 999 device 31 9;clue 1 type 15 1;clue 998 mark 1 2;clue 2 city 9 8;clue 3 year 1999 7;"
                + "read 4;aside 10;aside 0;back 10;weigh 9 1;lend aldus estien 4;");
        y.addDeviceClue(999, 31, 9);
        y.addTypefaceClue(1, 15, 1);
        y.addWatermarkClue(998, 1, 2);
        y.addCityClue(2, 9, 8);
        y.addDateClue(3, 1999, 7);
        y.read(4);
        y.setAside(10);
        y.setAside(0);
        y.takeBack(10);
        y.setWeight(9, 1);
        y.transferDevice(0, 1, 4);
        Check.due("the same state", Check.stateOf(x), Check.stateOf(y));
    }

    private static void oneAfterTheOther() {
        aboutCommands("They are executed one after the other.");
        ColophonDetective x = new ColophonDetective();
        Check.due("a clue of an earlier command", Check.run(x, "clue 999 city 1 1;aside 6;weigh 6 9;read 1;read 1;"), 5);
        Check.due("set aside", x.isAside(6), true);
        Check.due("weighed", x.weightOf(6), 9);
        Check.due("read first", x.isRead(6), true);
        Check.due("read second", x.isRead(0), true);
        Check.due("the last weight stays", Check.run(x, "weigh 0 1;weigh 0 9;weigh 0 7;"), 3);
        Check.due("the last weight stays", x.weightOf(0), 7);
        Check.due("there and back", Check.run(x, "lend aldus estien 4;lend estien aldus 4;aside 0;back 0;aside 0;"), 5);
        Check.due("there and back", x.hasDevice(0, 4), true);
        Check.due("aside at last", x.isAside(0), true);
    }

    private static void stoppedExecution() {
        aboutCommands("Execution stops at the first command whose method would throw an exception; the commands before it "
                + "keep their effect.");
        ColophonDetective x = new ColophonDetective();
        Check.due("the first command", Check.run(x, "back 0;read 40;"), 0);
        Check.due("the second command", Check.run(x, "read 1;back 0;read 40;"), 1);
        Check.due("the command before it", x.isRead(0), true);
        Check.due("the command behind it", x.isRead(1), false);
        Check.due("the thirtieth command", Check.run(x, "weigh 0 9;".repeat(28) + "weigh 0 8;back 0;"), 29);
        Check.due("the commands before it", x.weightOf(0), 8);
        Check.due("that is no error of the text", x.errorCode(), 0);
        Check.due("that is no error of the text", x.errorPosition(), -1);
    }

    private static void stoppedByEachRefusal() {
        aboutCommands("Execution stops at the first command whose method would throw an exception; the commands before it "
                + "keep their effect.");
        String[] refused = {"aside 7;", "aside 39;", "aside 0;", "back 7;", "back 1;", "weigh 7 1;",
            "lend aldus aldus 4;", "lend estien aldus 4;", "lend plantn plantn 31;"};
        for (String command : refused) {
            ColophonDetective x = new ColophonDetective();
            ColophonDetective y = new ColophonDetective();
            Check.due(command, Check.run(x, "aside 0;clue 1 city 1 1;" + command + "weigh 0 9;"), 2);
            y.setAside(0);
            y.addCityClue(1, 1, 1);
            Check.due("the state after " + command, Check.stateOf(x), Check.stateOf(y));
        }
        ColophonDetective full = Check.detectiveOf(ONE + "mark 1500 1500;" + "clue 1 city 1 1;".repeat(39));
        for (String clue : new String[] {"device", "type", "mark", "city"}) {
            Check.due("a 41st clue", Check.run(full, "clue 1 city 1 1;clue 1 " + clue + " 0 1;read 40;"), 1);
            Check.due("the 40th clue stays", full.clueCount(), 40);
            Check.due("nothing is read", full.isRead(0), false);
            full.undo();
        }
        Check.due("a 41st clue", Check.run(full, "clue 1 city 1 1;clue 1 year 1500 1;read 40;"), 1);
    }
}
