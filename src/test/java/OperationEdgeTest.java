/** The boundary cases of the promises 50 to 65: operations, undo, the saved state and the output. */
public final class OperationEdgeTest {
    private static final String ONE = Texts.PRINTER;
    private static final String MARKS = "mark 1500 1510;".repeat(3);

    private interface Adder {
        int add(ColophonDetective detective, int page, int value, int weight);
    }

    public static void main(String[] args) {
        addedClues();
        watermarkThatDoesNotExist();
        Document.wasTested(50, 54);
        readCounts();
        readFewer();
        readOutOfRange();
        setAsideWithoutClue();
        setAsideAlready();
        takeBackWithoutClue();
        takeBackWhatIsNotAside();
        scoreAfterThat();
        noneAndAllUnexplained();
        verdictStays();
        weights();
        weightsOutOfRange();
        setWeightWithoutClue();
        Document.wasTested(55, 59);
        deviceThatTheOtherHas();
        firstAndLastDevice();
        transferWithoutPrinter();
        transferToTheSame();
        transferOfAMissingDevice();
        undoneOnce();
        undoKeeps();
        undoCounts();
        nothingToUndo();
        savedParts();
        savedAgain();
        savedClues();
        restoredState();
        nothingToUndoAfterRestore();
        nothingSaved();
        outputOfNoClue();
        outputOfFortyClues();
        replacedOutput();
        noSuchByte();
        Document.wasTested(60, 65);
        Check.finish("OperationEdgeTest");
    }

    // ---- adding clues

    private static void addedClues() {
        added(50, "`device`: 0 to 31", 0, 31,
                (x, page, value, weight) -> x.addDeviceClue(page, value, weight));
        added(51, "`typeface`: 0 to 15", 0, 15,
                (x, page, value, weight) -> x.addTypefaceClue(page, value, weight));
        added(52, "`watermark`: number of a watermark", 0, 2,
                (x, page, value, weight) -> x.addWatermarkClue(page, value, weight));
        added(53, "`city`: 0 to 9", 0, 9,
                (x, page, value, weight) -> x.addCityClue(page, value, weight));
        added(54, "`year`: a year, 1450 to 1999", 1450, 1999,
                (x, page, value, weight) -> x.addDateClue(page, value, weight));
    }

    private static void added(int promise, String values, int low, int high, Adder adder) {
        ColophonDetective x = Check.detectiveOf(ONE + MARKS);
        int clues = 0;
        Document.about(promise, values);
        for (int value = low; value <= high; value += Math.max(1, (high - low) / 9)) {
            clues += addedClue(x, adder, 5, value, 5);
        }
        clues += addedClue(x, adder, 5, high, 5);
        Document.about(promise, "`page`: 1 to 999");
        clues += addedClue(x, adder, 1, low, 5);
        clues += addedClue(x, adder, 999, low, 5);
        Document.about(promise, "`weight`: 1 to 9");
        clues += addedClue(x, adder, 5, low, 1);
        clues += addedClue(x, adder, 5, low, 9);
        Document.about(promise, "Throws `IllegalArgumentException` if a parameter is out of range");
        for (int wrong : Check.outside(low, high)) {
            Check.noArgument("value " + wrong, () -> adder.add(x, 5, wrong, 5));
        }
        for (int wrong : Check.outside(1, 999)) {
            Check.noArgument("page " + wrong, () -> adder.add(x, wrong, low, 5));
        }
        for (int wrong : Check.outside(1, 9)) {
            Check.noArgument("weight " + wrong, () -> adder.add(x, 5, low, wrong));
        }
        Check.due("no clue was added", x.clueCount(), clues);
        fortyClues(promise, low, x, adder);
    }

    private static int addedClue(ColophonDetective x, Adder adder, int page, int value, int weight) {
        int clue = adder.add(x, page, value, weight);
        Check.due("the number of the clue", clue, x.clueCount() - 1);
        Check.due("the page", x.pageOf(clue), page);
        Check.due("the value", x.valueOf(clue), value);
        Check.due("the weight", x.weightOf(clue), weight);
        Check.due("it is unread", x.isRead(clue) || x.isAside(clue), false);
        return 1;
    }

    private static void fortyClues(int promise, int low, ColophonDetective x, Adder adder) {
        Document.about(promise, "Throws `IllegalStateException` if there are 40 clues");
        for (int clue = x.clueCount(); clue < 40; clue++) {
            Check.due("clue " + clue, adder.add(x, 5, low, 5), clue);
        }
        for (int again = 0; again < 3; again++) {
            Check.noState("a 41st clue", () -> adder.add(x, 5, low, 5));
        }
        Check.noArgument("a 41st clue of page 0", () -> adder.add(x, 0, low, 5));
        Check.noArgument("a 41st clue of weight 10", () -> adder.add(x, 5, low, 10));
        Check.noArgument("a 41st clue of a value too small", () -> adder.add(x, 5, low - 1, 5));
        x.undo();
        Check.due("there is room again", adder.add(x, 5, low, 5), 39);
    }

    private static void watermarkThatDoesNotExist() {
        Document.about(52, "or there is no such watermark");
        for (int count : new int[] {0, 1, 8}) {
            ColophonDetective x = Check.detectiveOf(ONE + "mark 1500 1510;".repeat(8));
            Check.send(x, 0, ONE + "mark 1500 1510;".repeat(count));
            x.load();
            for (int wrong : Check.outside(0, count - 1)) {
                Check.noArgument(wrong + " of " + count, () -> x.addWatermarkClue(1, wrong, 1));
            }
            if (count > 0) {
                Check.due("the last of " + count, x.addWatermarkClue(1, count - 1, 1), 0);
            }
        }
    }

    // ---- reading

    private static void readCounts() {
        Document.about(55, "how many unread clues are read, 1 to 40");
        for (int count : new int[] {1, 2, 39, 40}) {
            ColophonDetective x = Check.detectiveOf(ONE + "clue 1 city 1 1;".repeat(40));
            Check.due("read " + count, x.read(count), count);
            Check.due("that many count", x.countingWeight(), count);
            Check.due("the next one", x.nextClue(), count < 40 ? count : -1);
        }
    }

    private static void readFewer() {
        Document.about(55, "all of them if there are fewer");
        ColophonDetective x = Check.detectiveOf(ONE + "clue 1 city 1 1;".repeat(5));
        Check.due("three of five", x.read(3), 3);
        Check.due("three of two", x.read(3), 2);
        Check.due("one of none", x.read(1), 0);
        Check.due("forty of none", x.read(40), 0);
        Check.due("each is an operation", x.undo(), 3);
        x.undo();
        Check.due("two are read again", x.undo(), 1);
        Check.due("two are read again", x.nextClue(), 3);
        ColophonDetective none = Check.detectiveOf(ONE);
        Check.due("no clues", none.read(40), 0);
        Check.due("that is an operation, too", none.undo(), 0);
    }

    private static void readOutOfRange() {
        Document.about(55, "Throws `IllegalArgumentException` if count is out of range");
        for (int clues : new int[] {0, 5, 40}) {
            ColophonDetective x = Check.detectiveOf(ONE + "clue 1 city 1 1;".repeat(clues));
            for (int wrong : Check.outside(1, 40)) {
                Check.noArgument("read " + wrong + " of " + clues, () -> x.read(wrong));
            }
            Check.due("nothing is read", x.countingWeight(), 0);
            Check.noState("there was no operation", () -> x.undo());
        }
    }

    // ---- setting aside and taking back

    private static void setAsideWithoutClue() {
        Numbers.noClue(56, (x, clue) -> x.setAside(clue));
    }

    private static void setAsideAlready() {
        Document.about(56, "Throws `IllegalStateException` if the clue is set aside already");
        ColophonDetective x = Check.detectiveOf(ONE + "clue 2 city 1 1;clue 1 city 1 2;");
        x.setAside(0);
        Check.noState("an unread clue", () -> x.setAside(0));
        x.read(40);
        Check.noState("a clue that is read", () -> x.setAside(0));
        Check.due("another clue", x.setAside(1), 0);
        Check.noState("another clue", () -> x.setAside(1));
        Check.due("it is still aside", x.isAside(1), true);
        x.takeBack(1);
        Check.due("after it was taken back", x.setAside(1), 0);
        x.undo();
        Check.due("after that was undone", x.setAside(1), 0);
        x.takeBack(0);
        x.takeBack(1);
        Check.due("set aside with another", x.setAside(0), 2);
        x.setAsideUnexplained();
        Check.noState("after setAsideUnexplained", () -> x.setAside(0));
    }

    private static void takeBackWithoutClue() {
        Numbers.noClue(57, (x, clue) -> x.takeBack(clue));
    }

    private static void takeBackWhatIsNotAside() {
        Document.about(57, "Throws `IllegalStateException` if the clue is not set aside");
        ColophonDetective full = Check.detectiveOf(ONE + "clue 1 city 1 1;".repeat(40));
        Check.noState("the last of forty", () -> full.takeBack(39));
        full.setAside(39);
        Check.due("the last of forty", full.takeBack(39), 0);
        ColophonDetective x = Check.detectiveOf(ONE + "clue 2 city 1 1;clue 1 city 9 2;");
        Check.noState("an unread clue", () -> x.takeBack(0));
        x.read(40);
        Check.noState("a clue that is read", () -> x.takeBack(0));
        x.setAside(0);
        Check.due("set aside", x.takeBack(0), 1);
        Check.noState("taken back already", () -> x.takeBack(0));
        x.setAside(0);
        x.undo();
        Check.noState("setting aside was undone", () -> x.takeBack(0));
        x.setAsideUnexplained();
        Check.due("after setAsideUnexplained", x.takeBack(1), 1);
        Check.noState("taken back already", () -> x.takeBack(1));
    }

    private static ColophonDetective rivals() {
        ColophonDetective x = Check.detectiveOf(Texts.printers(2) + "clue 9 city 1 5;clue 8 city 0 3;clue 7 city 0 1;");
        x.read(2);
        return x;
    }

    private static void scoreAfterThat() {
        Document.about(56, "Returns the score of the verdict after that.");
        ColophonDetective x = rivals();
        Check.due("an unread clue", x.setAside(2), 5);
        Check.due("a clue that another printer explains", x.setAside(1), 5);
        Check.due("the last clue that counts", x.setAside(0), 0);
        Document.about(57, "Returns the score of the verdict after that.");
        Check.due("an unread clue", x.takeBack(2), 0);
        Check.due("the first clue that counts", x.takeBack(1), 3);
        Check.due("the verdict is another printer again", x.takeBack(0), 5);
        Document.about(56, "Returns the score of the verdict after that.");
        Check.due("the verdict becomes another printer", rivals().setAside(0), 3);
    }

    private static void noneAndAllUnexplained() {
        Document.about(58, "Operation: sets all clues aside that count and that the verdict does not explain.");
        ColophonDetective none = Check.detectiveOf(ONE);
        Check.due("no clues", none.setAsideUnexplained(), 0);
        Check.due("that is an operation", none.undo(), 0);
        ColophonDetective x = Check.detectiveOf(ONE + "clue 1 city 9 1;".repeat(40));
        Check.due("none is read", x.setAsideUnexplained(), 0);
        x.read(39);
        x.setAside(7);
        Check.due("all that count", x.setAsideUnexplained(), 38);
        Check.due("the first", x.isAside(0), true);
        Check.due("the last", x.isAside(38), true);
        Check.due("an unread clue is not set aside", x.isAside(39), false);
        Check.due("nothing counts any more", x.countingWeight(), 0);
        x.read(1);
        Check.due("the last one", x.setAsideUnexplained(), 1);
        Check.due("no more", x.setAsideUnexplained(), 0);
        x.undo();
        x.undo();
        x.undo();
        Check.due("38 at once are undone at once", x.undo(), 3);
        Check.due("38 at once are undone at once", x.countingWeight(), 38);
        Check.due("the one set aside before stays", x.isAside(7), true);
    }

    private static void verdictStays() {
        Document.about(58, "(The verdict does not change by this.)");
        ColophonDetective x = Check.detectiveOf("printer a 1 1500 1510;printer b 2 1500 1510;clue 9 city 1 2;"
                + "clue 8 year 1510 3;clue 7 year 1500 3;clue 6 city 2 2;clue 5 city 9 9;");
        for (int read = 0; read <= 5; read++) {
            int printer = x.verdictPrinter();
            int year = x.verdictYear();
            int score = x.verdictScore();
            x.setAsideUnexplained();
            Check.due("the printer after " + read, x.verdictPrinter(), printer);
            Check.due("the year after " + read, x.verdictYear(), year);
            Check.due("the score after " + read, x.verdictScore(), score);
            Check.due("the weight after " + read, x.countingWeight(), score);
            x.undo();
            x.read(1);
        }
    }

    // ---- weights

    private static void weights() {
        Document.about(59, "`weight`: 1 to 9");
        ColophonDetective x = Check.detectiveOf(ONE + "clue 1 city 1 5;".repeat(40));
        int previous = 5;
        for (int weight = 1; weight <= 9; weight++) {
            Check.due("to " + weight, x.setWeight(39, weight), previous);
            Check.due("it is " + weight, x.weightOf(39), weight);
            previous = weight;
        }
        Document.about(59, "Returns the previous weight.");
        Check.due("from the highest", x.setWeight(39, 1), 9);
        Check.due("from the lowest", x.setWeight(39, 1), 1);
        x.undo();
        Check.due("to the same is an operation", x.undo(), 6);
        Check.due("to the same is an operation", x.weightOf(39), 9);
        Check.due("the others stay", x.weightOf(0) + x.weightOf(38), 10);
    }

    private static void weightsOutOfRange() {
        Document.about(59, "Throws `IllegalArgumentException` if weight is out of range");
        ColophonDetective x = Check.detectiveOf(ONE + "clue 1 city 1 5;");
        for (int wrong : Check.outside(1, 9)) {
            Check.noArgument("" + wrong, () -> x.setWeight(0, wrong));
        }
        Check.due("it stays", x.weightOf(0), 5);
        Check.noState("there was no operation", () -> x.undo());
    }

    private static void setWeightWithoutClue() {
        Numbers.noClue(59, (x, clue) -> x.setWeight(clue, 1));
        Numbers.noClue(59, (x, clue) -> x.setWeight(clue, clue >= 0 && clue < x.clueCount() ? 1 : 0));
    }

    // ---- devices

    private static ColophonDetective lenders() {
        return Check.detectiveOf(Texts.printers(8) + "device a 0;device a 31;device a 7;device b 7;device h 7;");
    }

    private static void deviceThatTheOtherHas() {
        ColophonDetective x = lenders();
        Document.about(60, "Returns the number of printers that have the device after that.");
        Check.due("three become two", x.transferDevice(0, 1, 7), 2);
        Document.about(60, "If the other one has it already, it keeps it.");
        Check.due("the one does not have it any more", x.hasDevice(0, 7), false);
        Check.due("the other one has it", x.hasDevice(1, 7), true);
        Check.due("two become one", x.transferDevice(7, 1, 7), 1);
        Check.due("the last owner", x.transferDevice(1, 0, 7), 1);
        x.undo();
        x.undo();
        x.undo();
        Check.due("all is undone", x.deviceOwners(7), 3);
    }

    private static void firstAndLastDevice() {
        Document.about(60, "Operation: a printer hands a device over to another printer.");
        ColophonDetective x = lenders();
        Check.due("device 31 to the last printer", x.transferDevice(0, 7, 31), 1);
        Check.due("device 31 is there", x.hasDevice(7, 31), true);
        Check.due("device 0 to the last printer", x.transferDevice(0, 7, 0), 1);
        Check.due("device 0 is there", x.hasDevice(7, 0), true);
        Check.due("the first printer has one left", x.hasDevice(0, 7), true);
        Check.due("device 31 back", x.transferDevice(7, 0, 31), 1);
        Check.due("device 31 is back", x.hasDevice(0, 31), true);
    }

    private static void transferWithoutPrinter() {
        Document.about(60, "Throws `IndexOutOfBoundsException` if there is no such printer");
        ColophonDetective eight = lenders();
        ColophonDetective two = Check.detectiveOf(Texts.printers(2) + "device a 7;device b 7;");
        for (ColophonDetective x : new ColophonDetective[] {eight, two}) {
            int last = x.printerCount() - 1;
            for (int wrong : Check.outside(0, last)) {
                Check.noIndex("from " + wrong, () -> x.transferDevice(wrong, last, 7));
                Check.noIndex("to " + wrong, () -> x.transferDevice(0, wrong, 7));
                Check.noIndex("the same wrong one " + wrong, () -> x.transferDevice(wrong, wrong, 7));
                Check.noIndex("to " + wrong + " without the device", () -> x.transferDevice(0, wrong, 8));
            }
        }
        Check.due("nothing changed", eight.deviceOwners(7), 3);
    }

    private static void transferToTheSame() {
        Document.about(60, "Throws `IllegalArgumentException` if both printers are the same");
        ColophonDetective x = lenders();
        for (int printer = 0; printer < 8; printer++) {
            int same = printer;
            Check.noArgument("with or without the device, " + same, () -> x.transferDevice(same, same, 7));
            Check.noArgument("without a device, " + same, () -> x.transferDevice(same, same, 99));
        }
        Check.due("nothing changed", x.deviceOwners(7), 3);
    }

    private static void transferOfAMissingDevice() {
        Document.about(60, "Throws `IllegalStateException` if the first printer does not have the device");
        ColophonDetective x = lenders();
        Check.noState("only the other one has it", () -> x.transferDevice(2, 0, 7));
        Check.noState("nobody has it", () -> x.transferDevice(0, 1, 30));
        for (int wrong : Check.outside(0, 31)) {
            Check.noState("device " + wrong, () -> x.transferDevice(0, 1, wrong));
        }
        x.transferDevice(0, 1, 0);
        Check.noState("it handed it over", () -> x.transferDevice(0, 1, 0));
        Check.due("nothing else changed", x.deviceOwners(7), 3);
        Check.due("one operation", x.undo(), 0);
    }

    // ---- undo

    private static void undoneOnce() {
        Document.about(61, "Undoes the most recent operation that was not undone.");
        ColophonDetective x = Check.detectiveOf(ONE + "clue 1 city 1 1;");
        x.setWeight(0, 2);
        x.setWeight(0, 3);
        x.undo();
        Check.due("the second", x.weightOf(0), 2);
        x.setWeight(0, 4);
        x.undo();
        Check.due("the third", x.weightOf(0), 2);
        x.undo();
        Check.due("the first", x.weightOf(0), 1);
        Check.noState("nothing is left", () -> x.undo());
        x.setWeight(0, 5);
        Check.due("after all were undone", x.undo(), 0);
        Check.due("after all were undone", x.weightOf(0), 1);
    }

    private static void undoKeeps() {
        Document.about(61, "The input buffer, the error code, the error position, the output and the saved state do not "
                + "change.");
        ColophonDetective x = new ColophonDetective();
        x.read(1);
        x.save();
        x.formatVerdict();
        Check.send(x, 0, "read 0;");
        Check.noArgument("read 0", () -> x.executeCommands());
        Check.send(x, 0, "plantn");
        x.read(1);
        x.setAside(0);
        Check.due("undo", x.undo(), 2);
        Check.due("undo", x.undo(), 1);
        Check.due("undo", x.undo(), 0);
        Check.due("the input buffer", x.findPrinter(), 2);
        Check.due("the input buffer", x.truncate(6), 6);
        Check.due("the error code", x.errorCode(), 2);
        Check.due("the error position", x.errorPosition(), 5);
        Check.due("the output", Check.outputOf(x), "aldus 1494+0");
        Check.due("nothing is read", x.isRead(0), false);
        Check.due("the saved state", x.restore(), 6);
        Check.due("the saved state", x.isRead(0), true);
    }

    private static void undoCounts() {
        Document.about(61, "Returns the number of operations that can still be undone.");
        ColophonDetective x = new ColophonDetective();
        x.read(1);
        Check.due("one operation", x.undo(), 0);
        for (int i = 0; i < 8; i++) {
            x.read(1);
        }
        Check.due("eight operations", x.undo(), 7);
        x.read(1);
        x.read(1);
        Check.due("nine since", x.undo(), 7);
        for (int left = 6; left >= 0; left--) {
            Check.due("left", x.undo(), left);
        }
    }

    private static void nothingToUndo() {
        Document.about(61, "Throws `IllegalStateException` if there is no operation to undo");
        ColophonDetective x = new ColophonDetective();
        Check.noState("a new object", () -> x.undo());
        x.save();
        x.formatVerdict();
        x.printerAfter(1);
        Check.noState("no operations", () -> x.undo());
        Check.noIndex("a refused one", () -> x.setAside(6));
        Check.noState("a refused one", () -> x.undo());
        x.read(1);
        x.undo();
        Check.noState("all were undone", () -> x.undo());
        Check.noState("and once more", () -> x.undo());
        Check.due("nothing changed", Check.stateOf(x).contains("read"), false);
    }

    // ---- the saved state

    private static void savedParts() {
        Document.about(62, "Saves everything except the input buffer, the error code, the error position, the output and the "
                + "operations that can be undone");
        ColophonDetective x = new ColophonDetective();
        x.addCityClue(999, 3, 9);
        x.read(2);
        x.setAside(1);
        x.setWeight(2, 9);
        x.transferDevice(0, 1, 4);
        x.formatVerdict();
        String before = Check.stateOf(x);
        x.save();
        Check.due("saving changes nothing", Check.stateOf(x), before);
        Check.send(x, 0, Texts.printers(8));
        x.load();
        x.restore();
        Check.due("all of it is saved", Check.stateOf(x), before);
        Check.send(x, 0, "read 0;");
        Check.noArgument("an error", () -> x.executeCommands());
        x.read(40);
        x.formatVerdict();
        String output = Check.outputOf(x);
        Check.send(x, 0, "estien");
        x.restore();
        Check.due("the input buffer is not saved", x.findPrinter(), 1);
        Check.due("the error code is not saved", x.errorCode(), 2);
        Check.due("the error position is not saved", x.errorPosition(), 5);
        Check.due("the output is not saved", Check.outputOf(x), output);
        ColophonDetective y = new ColophonDetective();
        y.read(1);
        y.read(1);
        y.save();
        Check.due("saving does not take operations away", y.undo(), 1);
        Check.due("saving does not take operations away", y.undo(), 0);
        Check.noState("saving is no operation", () -> y.undo());
    }

    private static void savedAgain() {
        Document.about(62, "replacing an earlier saved state.");
        ColophonDetective x = new ColophonDetective();
        x.save();
        x.read(1);
        x.save();
        x.read(1);
        x.restore();
        Check.due("the later one", x.nextClue(), 1);
        x.save();
        x.restore();
        Check.due("the same once more", x.nextClue(), 1);
    }

    private static void savedClues() {
        Document.about(62, "Returns the number of clues.");
        Check.due("none", Check.detectiveOf(ONE).save(), 0);
        ColophonDetective x = Check.detectiveOf(ONE + "clue 1 city 1 1;".repeat(40));
        Check.due("forty", x.save(), 40);
    }

    private static void restoredState() {
        Document.about(63, "Replaces everything that save saves by the saved state, which is kept.");
        ColophonDetective x = new ColophonDetective();
        x.read(2);
        x.save();
        String saved = Check.stateOf(x);
        for (int again = 0; again < 3; again++) {
            x.read(40);
            x.setAside(again);
            x.setWeight(0, 1);
            x.transferDevice(0, 1, 4);
            x.addCityClue(999, 1, 1);
            Check.due("the clues", x.restore(), 6);
            Check.due("the state", Check.stateOf(x), saved);
        }
        Check.send(x, 0, ONE);
        x.load();
        Document.about(63, "Returns the number of clues after that.");
        Check.due("after a configuration without clues", x.restore(), 6);
        Check.due("the state", Check.stateOf(x), saved);
        ColophonDetective none = Check.detectiveOf(ONE);
        none.save();
        none.addCityClue(1, 1, 1);
        Check.due("none", none.restore(), 0);
    }

    private static void nothingToUndoAfterRestore() {
        Document.about(63, "Nothing can be undone afterwards.");
        ColophonDetective x = new ColophonDetective();
        x.save();
        for (int i = 0; i < 9; i++) {
            x.read(1);
        }
        x.restore();
        Check.noState("nothing", () -> x.undo());
        x.read(1);
        Check.due("what comes after that", x.undo(), 0);
        Check.noState("nothing more", () -> x.undo());
    }

    private static void nothingSaved() {
        Document.about(63, "Throws `IllegalStateException` if there is no saved state");
        ColophonDetective x = new ColophonDetective();
        x.read(1);
        String before = Check.stateOf(x);
        Check.noState("a new object", () -> x.restore());
        Check.due("nothing changed", Check.stateOf(x), before);
        Check.due("it can still be undone", x.undo(), 0);
        Check.send(x, 0, ONE);
        x.load();
        Check.noState("loading saves nothing", () -> x.restore());
        x.save();
        Check.due("a saved state", x.restore(), 0);
    }

    // ---- the output

    private static void outputOfNoClue() {
        Document.about(64, "for each clue that counts");
        ColophonDetective x = Check.detectiveOf("printer a 1 1450 1450;clue 1 city 1 1;");
        Check.due("an unread clue", x.formatVerdict(), 6);
        Check.due("an unread clue", Check.outputOf(x), "a 1450");
        x.read(1);
        x.setAside(0);
        Check.due("a clue that is set aside", x.formatVerdict(), 6);
        x.takeBack(0);
        Check.due("a clue that counts", x.formatVerdict(), 8);
        Check.due("a clue that counts", Check.outputOf(x), "a 1450+0");
    }

    private static void outputOfFortyClues() {
        Document.about(64, "a plus sign (byte 43) if the verdict explains it, or a hyphen (byte 45) if not, and the number "
                + "of the clue.");
        ColophonDetective x = Check.detectiveOf("printer zyxwva 1 1999 1999;" + "clue 2 city 1 1;clue 1 city 2 1;".repeat(20));
        x.read(40);
        StringBuilder due = new StringBuilder("zyxwva 1999");
        for (int clue = 0; clue < 40; clue += 2) {
            due.append('+').append(clue);
        }
        for (int clue = 1; clue < 40; clue += 2) {
            due.append('-').append(clue);
        }
        Check.due("the longest output", x.formatVerdict(), 121);
        Check.due("the longest output", Check.outputOf(x), due.toString());
        Document.about(64, "Returns the length of the output.");
        Check.due("the last byte", x.outputByte(120), '9');
        Check.due("no more bytes", x.outputByte(121), -1);
    }

    private static void replacedOutput() {
        Document.about(64, "Replaces the output by the name of the printer of the verdict");
        ColophonDetective x = new ColophonDetective();
        x.read(40);
        x.formatVerdict();
        Check.due("a long one", Check.outputOf(x), "plantn 1556+0-1-2+3+4+5");
        Check.send(x, 0, "printer a 1 1500 1500;");
        x.load();
        Check.due("it stays until the next call", Check.outputOf(x), "plantn 1556+0-1-2+3+4+5");
        Check.due("a short one", x.formatVerdict(), 6);
        Check.due("a short one", Check.outputOf(x), "a 1500");
        Check.due("the rest is gone", x.outputByte(6), -1);
        Check.due("the same again", x.formatVerdict(), 6);
        Check.due("the same again", Check.outputOf(x), "a 1500");
    }

    private static void noSuchByte() {
        Document.about(65, "index of the byte, from 0");
        ColophonDetective x = new ColophonDetective();
        Check.due("the empty output", x.outputByte(0), -1);
        int length = x.formatVerdict();
        Check.due("the first", x.outputByte(0), 'a');
        Check.due("the last", x.outputByte(length - 1), '4');
        Document.about(65, "Returns the byte, or NONE if there is no such byte.");
        for (int wrong : Check.outside(0, length - 1)) {
            Check.due("byte " + wrong, x.outputByte(wrong), -1);
            Check.due("byte " + wrong + " of the empty output", new ColophonDetective().outputByte(wrong), -1);
        }
        Check.due("the output stays", Check.outputOf(x), "aldus 1494");
    }
}
