/** The boundary cases of the promises 1 to 7 and 9: a new object, the input buffer, and what is read from it. */
public final class InputEdgeTest {
    private static final String ONE = Texts.PRINTER;

    public static void main(String[] args) {
        newObject();
        appendedBytes();
        appendUpTo1400();
        appendBeyond1400();
        truncateToTheSameLength();
        truncateToNothing();
        truncateOutOfRange();
        loadReplacesEverything();
        loadEmptiesTheBuffer();
        loadKeepsOutputAndSavedState();
        loadRefuses();
        commandsEmptyTheBuffer();
        numberOfCommands();
        commandsAreRefused();
        errorCodes();
        errorPositions();
        wholeBufferIsTheName();
        bufferOfNobody();
        Document.wasTested(1, 7);
        Document.wasTested("Promise 9");
        Check.finish("InputEdgeTest");
    }

    private static ColophonDetective with(String buffer) {
        ColophonDetective x = new ColophonDetective();
        Check.send(x, 0, buffer);
        return x;
    }

    private static ColophonDetective full() {
        ColophonDetective x = new ColophonDetective();
        for (int i = 0; i < 70; i++) {
            x.append(0x61616161, 0x61616161, 0x61616161, 0x61616161, 0x61616161);
        }
        return x;
    }

    private static void isEmpty(ColophonDetective x) {
        Check.noArgument("the buffer is empty", () -> x.truncate(1));
        Check.due("the buffer is empty", x.truncate(0), 0);
        Check.due("the next bytes are the first ones", x.append(0x61, 0, 0, 0, 0), 20);
        x.truncate(0);
    }

    private static void newObject() {
        Document.about(1, "Creates the detective of the configuration");
        ColophonDetective x = new ColophonDetective();
        ColophonDetective y = with(Model.START);
        y.load();
        Check.due("the same state", Check.stateOf(x), Check.stateOf(y));
        Check.noState("nothing to undo", () -> x.undo());
        Document.about(1, "with an empty input buffer, an empty output and no saved state.");
        isEmpty(new ColophonDetective());
        Check.due("no name", new ColophonDetective().findPrinter(), -1);
        Check.noArgument("no configuration", () -> new ColophonDetective().load());
        Check.due("no command", new ColophonDetective().executeCommands(), 0);
        Check.due("no output", new ColophonDetective().outputByte(0), -1);
        Check.noState("no saved state", () -> new ColophonDetective().restore());
    }

    // ---- append and truncate

    private static void appendedBytes() {
        Document.about(2, "Appends 20 bytes to the input buffer: the four bytes of each parameter, the most significant "
                + "byte first.");
        for (int at = 0; at < 20; at++) {
            if (at % 4 == 0) {
                Document.about(2, "bytes " + at + " to " + (at + 3));
            }
            for (int value : new int[] {0, 1, 0x7f, 0x80, 0xff}) {
                int[] words = {0x20202020, 0x20202020, 0x20202020, 0x20202020, 0x20202020};
                int shift = 8 * (3 - at % 4);
                words[at / 4] = words[at / 4] & ~(0xff << shift) | value << shift;
                ColophonDetective x = new ColophonDetective();
                x.append(words[0], words[1], words[2], words[3], words[4]);
                Check.noArgument("byte " + at + " of value " + value, () -> x.load());
                Check.due("byte " + at + " of value " + value, x.errorPosition(), at);
            }
        }
        Document.about(2, "Appends 20 bytes to the input buffer");
        ColophonDetective x = new ColophonDetective();
        Check.due("the greatest numbers", x.append(Integer.MAX_VALUE, Integer.MIN_VALUE, -1, 0, 1), 20);
    }

    private static void appendUpTo1400() {
        Document.about(2, "Returns the new length of the input buffer.");
        ColophonDetective x = new ColophonDetective();
        for (int length = 20; length <= 1400; length += 20) {
            Check.due("append", x.append(0, 0, 0, 0, 0), length);
        }
        Document.about(2, "if the new length would exceed 1400");
        x.truncate(1380);
        Check.due("from 1380 to 1400", x.append(0, 0, 0, 0, 0), 1400);
        x.truncate(1379);
        Check.due("from 1379 to 1399", x.append(0, 0, 0, 0, 0), 1399);
    }

    private static void appendBeyond1400() {
        Document.about(2, "Throws `IllegalStateException` if the new length would exceed 1400");
        for (int length = 1381; length <= 1400; length++) {
            ColophonDetective x = full();
            x.truncate(length);
            Check.noState("from " + length, () -> x.append(0, 0, 0, 0, 0));
            Check.due("nothing was appended", x.truncate(length), length);
            int beyond = length + 1;
            Check.noArgument("nothing was appended", () -> x.truncate(beyond));
        }
        ColophonDetective x = with(" ".repeat(1400 - ONE.length()) + ONE);
        Check.noState("from 1400", () -> x.append(0, 0, 0, 0, 0));
        Check.due("the text stays", x.load(), 0);
        Check.due("there is room again", x.append(0, 0, 0, 0, 0), 20);
    }

    private static void truncateToTheSameLength() {
        Document.about(3, "Returns the new length.");
        Check.due("0 of 0", new ColophonDetective().truncate(0), 0);
        Check.due("1400 of 1400", full().truncate(1400), 1400);
        ColophonDetective x = with("aldus");
        Check.due("5 of 5", x.truncate(5), 5);
        Check.due("the bytes stay", x.findPrinter(), 0);
    }

    private static void truncateToNothing() {
        Document.about(3, "Returns the new length.");
        ColophonDetective x = full();
        Check.due("1 of 1400", x.truncate(1), 1);
        Check.due("0 of 1", x.truncate(0), 0);
        isEmpty(x);
    }

    private static void truncateOutOfRange() {
        Document.about(3, "Throws `IllegalArgumentException` if length is negative or greater than the current length");
        ColophonDetective[] detectives = {new ColophonDetective(), with("aldus"), full()};
        int[] lengths = {0, 5, 1400};
        for (int i = 0; i < lengths.length; i++) {
            ColophonDetective x = detectives[i];
            for (int wrong : Check.outside(0, lengths[i])) {
                Check.noArgument(wrong + " of " + lengths[i], () -> x.truncate(wrong));
            }
            Check.due("nothing changed", x.truncate(lengths[i]), lengths[i]);
        }
        Check.due("nothing changed", detectives[1].findPrinter(), 0);
    }

    // ---- load

    private static void loadReplacesEverything() {
        Document.about(4, "On success the configuration replaces everything: all clues are unread, none is set aside, and "
                + "nothing can be undone.");
        ColophonDetective x = new ColophonDetective();
        x.read(40);
        x.setAside(0);
        x.setWeight(0, 9);
        x.transferDevice(0, 1, 4);
        Check.send(x, 0, Model.START);
        Check.due("the same configuration again", x.load(), 6);
        Check.due("the state of a new object", Check.stateOf(x), Check.stateOf(new ColophonDetective()));
        Check.noState("nothing can be undone", () -> x.undo());
        x.read(40);
        Check.send(x, 0, ONE);
        Check.due("a configuration without clues", x.load(), 0);
        Check.due("no watermark is left", x.watermarkCount(), 0);
        Check.due("no edition is left", x.editionCount(), 0);
        Check.due("no device is left", x.deviceOwners(4), 0);
        Check.due("no typeface is left", x.hasTypeface(0, 1), false);
        Check.due("no clue is left", x.clueInOrder(0), -1);
        Check.due("nothing counts", x.countingWeight(), 0);
        Check.noState("nothing can be undone", () -> x.undo());
        Document.about(4, "Returns the number of clues.");
        Check.send(x, 0, ONE + "clue 1 city 1 1;".repeat(40));
        Check.due("forty", x.load(), 40);
    }

    private static void loadEmptiesTheBuffer() {
        Document.about(4, "The input buffer is empty afterwards, also after an error.");
        ColophonDetective x = with(ONE);
        x.load();
        isEmpty(x);
        for (String wrong : new String[] {"#", "printer a", ONE + "#", ONE + "device b 1;" + "a".repeat(1300)}) {
            ColophonDetective y = with(wrong);
            Check.noArgument(wrong, () -> y.load());
            isEmpty(y);
        }
    }

    private static void loadKeepsOutputAndSavedState() {
        Document.about(4, "The output and the saved state do not change.");
        for (String text : new String[] {ONE, "#"}) {
            ColophonDetective x = new ColophonDetective();
            x.read(1);
            x.save();
            x.formatVerdict();
            x.read(1);
            Check.send(x, 0, text);
            try {
                x.load();
            } catch (IllegalArgumentException e) {
                Check.due("the error", text, "#");
            }
            Check.due("the output", Check.outputOf(x), "aldus 1494+0");
            Check.due("the saved state", x.restore(), 6);
            Check.due("the saved state", x.nextClue(), 1);
        }
        ColophonDetective x = with(ONE);
        x.load();
        Check.due("the output stays empty", x.outputByte(0), -1);
        Check.noState("there is no saved state yet", () -> x.restore());
    }

    private static void loadRefuses() {
        Document.about(4, "Throws `IllegalArgumentException` if the text has an error; nothing but the input buffer, the "
                + "error code and the error position changes");
        String good = Texts.printers(3) + "device c 1;type c 1;mark 1500 1510;edition c 1500;clue 1 city 1 1;";
        for (String bad : new String[] {"#", "clue", "clue 1 mark 1 1;", "edition a 1500;", "clue 1 city 1 1"}) {
            ColophonDetective x = new ColophonDetective();
            x.read(2);
            x.setAside(1);
            String before = stateWithoutError(x);
            Check.send(x, 0, good + bad);
            Check.noArgument(bad, () -> x.load());
            Check.due("nothing else changes", stateWithoutError(x), before);
            Check.due("it can be undone as before", x.undo(), 1);
            Check.due("it can be undone as before", x.undo(), 0);
            Check.due("what was there before", x.isRead(0), false);
        }
    }

    private static String stateWithoutError(ColophonDetective x) {
        String state = Check.stateOf(x);
        return state.substring(0, state.indexOf(" error ")) + state.substring(state.indexOf(" output "));
    }

    // ---- executeCommands

    private static void commandsEmptyTheBuffer() {
        Document.about(5, "The input buffer is empty afterwards, also after an error.");
        for (String sound : new String[] {"", "read 1;", "back 0;read 1;", "read 1;".repeat(30)}) {
            ColophonDetective x = with(sound);
            x.executeCommands();
            isEmpty(x);
        }
        for (String wrong : new String[] {"#", "read", "read 0;", "read 1;".repeat(31)}) {
            ColophonDetective x = with(wrong);
            Check.noArgument(wrong, () -> x.executeCommands());
            isEmpty(x);
        }
    }

    private static void numberOfCommands() {
        Document.about(5, "Returns the number of commands that were executed.");
        Check.due("no text", with("").executeCommands(), 0);
        Check.due("spaces", with("   ").executeCommands(), 0);
        Check.due("one", with("read 1;").executeCommands(), 1);
        Check.due("thirty", with("read 40;".repeat(30)).executeCommands(), 30);
        Check.due("the first stops", with("back 0;read 1;").executeCommands(), 0);
        Check.due("the last stops", with("read 1;read 1;back 0;").executeCommands(), 2);
    }

    private static void commandsAreRefused() {
        Document.about(5, "Throws `IllegalArgumentException` if the text has an error; nothing but the input buffer, the "
                + "error code and the error position changes");
        for (String bad : new String[] {"#", "read", "read 0;", "lend b aldus 4;", "aside 40;", "weigh 0 9"}) {
            ColophonDetective x = new ColophonDetective();
            x.read(2);
            x.save();
            x.setAside(1);
            x.formatVerdict();
            String before = stateWithoutError(x);
            Check.send(x, 0, "read 1;aside 0;weigh 0 9;lend aldus estien 4;clue 1 city 1 1;" + bad);
            Check.noArgument(bad, () -> x.executeCommands());
            Check.due("nothing else changes", stateWithoutError(x), before);
            Check.due("it is no operation", x.undo(), 1);
            Check.due("the saved state", x.restore(), 6);
            Check.due("the saved state", x.isAside(1), false);
        }
    }

    // ---- errors

    private static void errorCodes() {
        Document.about(6, "Returns the error code, or 0 if that call had no error or there was no such call.");
        ColophonDetective x = new ColophonDetective();
        Check.due("no call", x.errorCode(), 0);
        String[] texts = {"read 1;", "#", "back 0;", "read 0;", "", "lend b b 1;", "read 1;", "read 1;".repeat(31)};
        int[] codes = {0, 1, 0, 2, 0, 3, 0, 4};
        for (int i = 0; i < texts.length; i++) {
            run(x, texts[i], codes[i] == 0);
            Check.due("after the commands " + texts[i], x.errorCode(), codes[i]);
        }
        Document.about(6, "Returns the error code of the most recent call of load or executeCommands.");
        load(x, ONE, true);
        Check.due("load after executeCommands", x.errorCode(), 0);
        run(x, "read 0;", false);
        Check.due("executeCommands after load", x.errorCode(), 2);
        load(x, "", false);
        Check.due("load of nothing", x.errorCode(), 1);
        x.truncate(0);
        Check.noArgument("another refused call", () -> x.truncate(1));
        Check.due("another refused call", x.errorCode(), 1);
    }

    private static void run(ColophonDetective x, String text, boolean isSound) {
        Check.send(x, 0, text);
        if (isSound) {
            x.executeCommands();
        } else {
            Check.noArgument(text, () -> x.executeCommands());
        }
    }

    private static void load(ColophonDetective x, String text, boolean isSound) {
        Check.send(x, 0, text);
        if (isSound) {
            x.load();
        } else {
            Check.noArgument(text, () -> x.load());
        }
    }

    private static void errorPositions() {
        Document.about(7, "Returns the position, or NONE if that call had no error or there was no such call.");
        ColophonDetective x = new ColophonDetective();
        Check.due("no call", x.errorPosition(), -1);
        String[] texts = {"read 1;", "#", "back 0;", "read 0;", "", "lend b b 1;", "read 1;", "read 1;".repeat(31)};
        int[] positions = {-1, 0, -1, 5, -1, 5, -1, 210};
        for (int i = 0; i < texts.length; i++) {
            run(x, texts[i], positions[i] == -1);
            Check.due("after the commands " + texts[i], x.errorPosition(), positions[i]);
        }
        Document.about(7, "Returns the error position of the most recent call of load or executeCommands.");
        load(x, ONE, true);
        Check.due("load after executeCommands", x.errorPosition(), -1);
        run(x, "read 0;", false);
        Check.due("executeCommands after load", x.errorPosition(), 5);
        load(x, "", false);
        Check.due("load of nothing", x.errorPosition(), 0);
        load(x, " ".repeat(1400), false);
        Check.due("load of 1400 spaces", x.errorPosition(), 1400);
    }

    // ---- findPrinter

    private static void wholeBufferIsTheName() {
        Document.about(9, "Finds the printer whose name is the whole input buffer, which does not change.");
        ColophonDetective x = Check.detectiveOf("printer a 1 1500 1510;printer aa 1 1500 1510;printer zzzzzz 1 1500 1510;");
        String[] names = {"a", "aa", "zzzzzz"};
        for (int printer = 0; printer < names.length; printer++) {
            Check.send(x, 0, names[printer]);
            Check.due(names[printer], x.findPrinter(), printer);
            Check.due("the buffer does not change", x.findPrinter(), printer);
            Check.due("the buffer does not change", x.truncate(names[printer].length()), names[printer].length());
            x.truncate(0);
        }
    }

    private static void bufferOfNobody() {
        Document.about(9, "Returns the number of the printer, or NONE if there is none.");
        ColophonDetective x = Check.detectiveOf("printer a 1 1500 1510;printer aa 1 1500 1510;printer zzzzzz 1 1500 1510;");
        String[] texts = {"", " ", " a", "a ", "a;", "b", "aaa", "zzzzz", "zzzzzzz", "azzzzzz", "zzzzzza", "A", "\0", "a\0",
            "\u00e1", "1", "`", "{", "a".repeat(1400), " ".repeat(1400)};
        for (String text : texts) {
            Check.send(x, 0, text);
            Check.due("\"" + text + "\"", x.findPrinter(), -1);
            x.truncate(0);
        }
    }
}
