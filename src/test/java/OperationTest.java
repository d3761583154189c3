/** Promises 50 to 65: operations, undo, the saved state and the output. */
public final class OperationTest {
    private interface Adder {
        int add(int page, int value, int weight);
    }

    private static final String ONE = "printer a 1 1500 1510;";

    public static void main(String[] args) {
        promises50To54();
        promise55();
        promises56And57();
        promise58();
        promise59();
        promise60();
        promise61();
        promise61Depth();
        promises62And63();
        promises64And65();
        Check.finish("OperationTest");
    }

    private static void promises50To54() {
        ColophonDetective x = new ColophonDetective();
        Adder[] adders = {x::addDeviceClue, x::addTypefaceClue, x::addWatermarkClue, x::addCityClue, x::addDateClue};
        int[] lowest = {0, 0, 0, 0, 1450};
        int[] highest = {31, 15, 1, 9, 1999};
        int clues = 6;
        for (int kind = 0; kind < adders.length; kind++) {
            Adder adder = adders[kind];
            int low = lowest[kind];
            int high = highest[kind];
            Check.due("the lowest of kind " + kind, adder.add(1, low, 1), clues);
            Check.due("the highest of kind " + kind, adder.add(999, high, 9), clues + 1);
            for (int i = 0; i < 2; i++) {
                Check.due("kind", x.kindOf(clues + i), kind);
                Check.due("value", x.valueOf(clues + i), i == 0 ? low : high);
                Check.due("page", x.pageOf(clues + i), i == 0 ? 1 : 999);
                Check.due("weight", x.weightOf(clues + i), i == 0 ? 1 : 9);
                Check.due("read", x.isRead(clues + i), false);
                Check.due("aside", x.isAside(clues + i), false);
            }
            clues += 2;
            refusing(kind, adder, low, high);
            Check.due("nothing was added", x.clueCount(), clues);
        }
        fullBook();
    }

    private static void refusing(int kind, Adder adder, int low, int high) {
        int[][] wrong = {{0, low, 1}, {1000, low, 1}, {-1, low, 1}, {1, low, 0}, {1, low, 10}, {1, low, -1},
            {1, low - 1, 1}, {1, high + 1, 1}, {1, Integer.MIN_VALUE, 1}, {1, Integer.MAX_VALUE, 1},
            {Integer.MAX_VALUE, low, 1}, {1, low, Integer.MAX_VALUE}};
        for (int[] row : wrong) {
            Check.noArgument("kind " + kind + " of " + row[0] + " " + row[1] + " " + row[2],
                    () -> adder.add(row[0], row[1], row[2]));
        }
    }

    private static void fullBook() {
        ColophonDetective x = Check.detectiveOf(ONE + "mark 1500 1500;" + "clue 1 city 1 1;".repeat(39));
        Adder[] adders = {x::addDeviceClue, x::addTypefaceClue, x::addWatermarkClue, x::addCityClue, x::addDateClue};
        Check.due("the 40th", x.addDateClue(1, 1500, 1), 39);
        for (int kind = 0; kind < adders.length; kind++) {
            Adder adder = adders[kind];
            int low = kind == 4 ? 1450 : 0;
            Check.noState("the 41st of kind " + kind, () -> adder.add(1, low, 1));
            Check.noArgument("the parameters are checked first", () -> adder.add(1, -1, 1));
            Check.noArgument("the parameters are checked first", () -> adder.add(0, low, 1));
            Check.noArgument("the parameters are checked first", () -> adder.add(1, low, 0));
        }
        Check.due("only the 40th can be undone", x.undo(), 0);
        Check.due("39 are left", x.clueCount(), 39);
        Check.noArgument("no watermark", () -> Check.detectiveOf(ONE).addWatermarkClue(1, 0, 1));
        x.read(40);
        x.setAside(38);
        x.addCityClue(3, 3, 3);
        Check.due("a new clue is unread", x.isRead(39), false);
        x.read(1);
        x.setAside(39);
        x.undo();
        x.undo();
        x.undo();
        x.addCityClue(3, 3, 3);
        Check.due("unread again", x.isRead(39), false);
        Check.due("not aside again", x.isAside(39), false);
    }

    private static void promise55() {
        ColophonDetective x = new ColophonDetective();
        for (int wrong : new int[] {0, -1, 41, Integer.MIN_VALUE, Integer.MAX_VALUE}) {
            Check.noArgument("read " + wrong, () -> x.read(wrong));
        }
        Check.noState("a refused read is no operation", () -> x.undo());
        x.addCityClue(100, 3, 1);
        Check.due("read", x.read(4), 4);
        boolean[] due = {true, true, true, false, false, false, true};
        for (int clue = 0; clue < due.length; clue++) {
            Check.due(clue + " is read", x.isRead(clue), due[clue]);
        }
        x.setAside(3);
        Check.due("a clue set aside is read as well", x.read(1), 1);
        Check.due("a clue set aside is read as well", x.isRead(3), true);
        Check.due("a clue set aside stays so", x.isAside(3), true);
        Check.due("the others", x.read(40), 2);
        Check.due("none is left", x.read(1), 0);
        Check.due("it is an operation nevertheless", x.undo(), 5);
    }

    private static void promises56And57() {
        ColophonDetective x = new ColophonDetective();
        x.read(5);
        Check.due("set aside", x.setAside(4), 10);
        Check.due("another printer", x.verdictPrinter(), 0);
        Check.due("set aside", x.setAside(0), 5);
        Check.due("set an unread clue aside", x.setAside(5), 5);
        Check.noState("set aside already", () -> x.setAside(4));
        Check.due("taken back", x.takeBack(0), 10);
        Check.due("taken back", x.takeBack(4), 15);
        Check.due("an unread clue taken back", x.takeBack(5), 15);
        Check.due("taken back", x.isAside(4), false);
        Check.noState("not set aside", () -> x.takeBack(4));
        for (int wrong : new int[] {-1, 6, 40, Integer.MIN_VALUE, Integer.MAX_VALUE}) {
            Check.noIndex("setAside " + wrong, () -> x.setAside(wrong));
            Check.noIndex("takeBack " + wrong, () -> x.takeBack(wrong));
        }
        Check.due("six operations and the reading", x.undo(), 6);
        Check.due("undone", x.isAside(5), true);
    }

    private static void promise58() {
        ColophonDetective x = new ColophonDetective();
        Check.due("nothing counts", x.setAsideUnexplained(), 0);
        x.read(5);
        Check.due("two", x.setAsideUnexplained(), 2);
        boolean[] due = {false, true, true, false, false, false};
        for (int clue = 0; clue < due.length; clue++) {
            Check.due(clue + " is aside", x.isAside(clue), due[clue]);
        }
        Check.due("the verdict stays", x.verdictPrinter(), 2);
        Check.due("the verdict stays", x.verdictYear(), 1555);
        Check.due("the verdict stays", x.verdictScore(), 15);
        Check.due("none is left", x.setAsideUnexplained(), 0);
        Check.due("each call is an operation", x.undo(), 3);
        Check.due("still aside", x.isAside(1), true);
        Check.due("each call is an operation", x.undo(), 2);
        Check.due("undone", x.isAside(1), false);
        ColophonDetective y = Check.detectiveOf(ONE + "clue 1 city 2 1;clue 2 city 1 1;clue 3 city 2 1;clue 1 city 3 1;");
        y.read(3);
        y.setAside(2);
        Check.due("clue 0 alone: clue 2 is aside, clue 3 unread", y.setAsideUnexplained(), 1);
        Check.due("clue 0", y.isAside(0), true);
        Check.due("clue 3", y.isAside(3), false);
    }

    private static void promise59() {
        ColophonDetective x = new ColophonDetective();
        Check.due("from 5 to 9", x.setWeight(0, 9), 5);
        Check.due("from 9 to 1", x.setWeight(0, 1), 9);
        Check.due("from 1 to 1", x.setWeight(0, 1), 1);
        Check.due("the weight", x.weightOf(0), 1);
        Check.due("another weight", x.weightOf(1), 3);
        for (int wrong : new int[] {0, 10, -1, Integer.MIN_VALUE, Integer.MAX_VALUE}) {
            Check.noArgument("weight " + wrong, () -> x.setWeight(0, wrong));
            Check.noIndex("the clue is checked first", () -> x.setWeight(6, wrong));
        }
        Check.noIndex("clue -1", () -> x.setWeight(-1, 5));
        Check.noIndex("clue 6", () -> x.setWeight(6, 5));
        Check.due("three operations", x.undo(), 2);
        x.undo();
        x.undo();
        Check.due("undone", x.weightOf(0), 5);
    }

    private static void promise60() {
        ColophonDetective x = new ColophonDetective();
        Check.due("to a printer without it", x.transferDevice(0, 1, 4), 2);
        Check.due("gone", x.hasDevice(0, 4), false);
        Check.due("there", x.hasDevice(1, 4), true);
        Check.due("the other device stays", x.hasDevice(1, 7), true);
        Check.due("to a printer with it", x.transferDevice(1, 2, 4), 1);
        Check.due("gone", x.hasDevice(1, 4), false);
        Check.due("kept", x.hasDevice(2, 4), true);
        Check.noState("the first one does not have it", () -> x.transferDevice(1, 2, 4));
        for (int wrong : new int[] {-1, 32, 36, Integer.MIN_VALUE, Integer.MAX_VALUE}) {
            Check.noState("nobody has device " + wrong, () -> x.transferDevice(0, 1, wrong));
        }
        Check.noArgument("the same printer", () -> x.transferDevice(2, 2, 4));
        Check.noArgument("the same printer is checked before the device", () -> x.transferDevice(0, 0, 9));
        for (int wrong : new int[] {-1, 3, 8, Integer.MIN_VALUE, Integer.MAX_VALUE}) {
            Check.noIndex("from " + wrong, () -> x.transferDevice(wrong, 0, 4));
            Check.noIndex("to " + wrong, () -> x.transferDevice(0, wrong, 4));
            Check.noIndex("from and to " + wrong, () -> x.transferDevice(wrong, wrong, 4));
        }
        Check.due("two operations", x.undo(), 1);
        Check.due("undone", x.hasDevice(1, 4), true);
        ColophonDetective y = Check.detectiveOf("printer a 1 1500 1510;printer b 1 1500 1510;device a 31;device a 0;");
        Check.due("device 31", y.transferDevice(0, 1, 31), 1);
        Check.due("device 0 stays", y.hasDevice(0, 0), true);
        Check.due("device 0", y.transferDevice(0, 1, 0), 1);
        Check.due("device 0 is gone", y.hasDevice(0, 0), false);
        Check.due("device 0 is there", y.hasDevice(1, 0), true);
        Check.due("device 31 is there", y.hasDevice(1, 31), true);
        Check.due("device 31 is gone", y.hasDevice(0, 31), false);
    }

    private static void promise61() {
        ColophonDetective x = new ColophonDetective();
        Check.noState("nothing to undo", () -> x.undo());
        x.read(2);
        x.setAside(0);
        x.setWeight(1, 9);
        x.transferDevice(1, 2, 7);
        x.addCityClue(300, 3, 4);
        Check.run(x, "read 3;");
        x.takeBack(0);
        x.setAsideUnexplained();
        x.formatVerdict();
        String output = Check.outputOf(x);
        Check.send(x, 0, "read 0;");
        Check.noArgument("an error", () -> x.executeCommands());
        Check.noArgument("a refused operation", () -> x.read(0));
        Check.noIndex("a refused operation", () -> x.setAside(7));
        Check.send(x, 0, "aldus");
        Check.due("setAsideUnexplained", x.undo(), 7);
        Check.due("setAsideUnexplained", x.isAside(1), false);
        Check.due("takeBack", x.undo(), 6);
        Check.due("takeBack", x.isAside(0), true);
        Check.due("executeCommands", x.undo(), 5);
        Check.due("executeCommands", x.isRead(6), false);
        Check.due("addCityClue", x.undo(), 4);
        Check.due("addCityClue", x.clueCount(), 6);
        Check.due("transferDevice", x.undo(), 3);
        Check.due("transferDevice", x.hasDevice(1, 7), true);
        Check.due("transferDevice", x.hasDevice(2, 7), false);
        Check.due("setWeight", x.undo(), 2);
        Check.due("setWeight", x.weightOf(1), 3);
        Check.due("setAside", x.undo(), 1);
        Check.due("setAside", x.isAside(0), false);
        Check.due("read", x.undo(), 0);
        Check.due("read", x.nextClue(), 0);
        Check.noState("nothing more to undo", () -> x.undo());
        Check.due("the output stays", Check.outputOf(x), output);
        Check.due("the buffer stays", x.findPrinter(), 0);
        Check.due("the error code stays", x.errorCode(), 2);
        Check.due("the error position stays", x.errorPosition(), 5);
    }

    private static void promise61Depth() {
        ColophonDetective x = new ColophonDetective();
        for (int weight = 1; weight <= 9; weight++) {
            x.setWeight(0, weight);
        }
        for (int left = 7; left >= 0; left--) {
            Check.noIndex("a refused operation keeps the oldest one", () -> x.setWeight(99, 1));
            Check.noArgument("a refused operation keeps the oldest one", () -> x.setWeight(0, 0));
            Check.noState("a refused operation keeps the oldest one", () -> x.takeBack(0));
            Check.due("left", x.undo(), left);
            Check.due("the weight before", x.weightOf(0), left + 1);
        }
        Check.noState("the ninth", () -> x.undo());
        for (int weight = 1; weight <= 9; weight++) {
            x.setWeight(0, weight);
        }
        x.undo();
        x.undo();
        x.undo();
        Check.due("undone", x.weightOf(0), 6);
        x.setWeight(0, 2);
        Check.due("an operation after undoing", x.undo(), 5);
        Check.due("an operation after undoing", x.weightOf(0), 6);
        x.setWeight(0, 3);
        x.setWeight(0, 4);
        x.setWeight(0, 5);
        x.setWeight(0, 9);
        Check.due("eight again", x.undo(), 7);
        int[] before = {4, 3, 6, 5, 4, 3, 2};
        for (int i = 0; i < before.length; i++) {
            Check.due("left", x.undo(), 6 - i);
            Check.due("the weight before", x.weightOf(0), before[i]);
        }
    }

    private static void promises62And63() {
        ColophonDetective x = new ColophonDetective();
        Check.noState("no saved state", () -> x.restore());
        x.read(2);
        x.setAside(1);
        x.setWeight(0, 9);
        Check.due("save", x.save(), 6);
        Check.due("saving keeps what can be undone", x.undo(), 2);
        Check.due("undone", x.weightOf(0), 5);
        x.formatVerdict();
        x.takeBack(1);
        x.transferDevice(0, 1, 4);
        x.addCityClue(500, 3, 4);
        Check.send(x, 0, "plantn");
        Check.due("restore", x.restore(), 6);
        Check.due("the weight", x.weightOf(0), 9);
        Check.due("aside", x.isAside(1), true);
        Check.due("read", x.isRead(0), true);
        Check.due("the device", x.hasDevice(0, 4), true);
        Check.due("the order", x.clueInOrder(0), 0);
        Check.due("the buffer stays", x.findPrinter(), 2);
        Check.due("the output stays", Check.outputOf(x), "aldus 1494+0");
        x.truncate(0);
        Check.noState("nothing can be undone", () -> x.undo());
        x.read(40);
        Check.due("operations after that can", x.undo(), 0);
        Check.send(x, 0, ONE + "clue 1 city 1 1;");
        x.load();
        Check.due("the saved state is kept", x.restore(), 6);
        Check.due("with the printers", x.printerCount(), 3);
        Check.due("with the watermarks", x.watermarkCount(), 2);
        Check.due("with the editions", x.editionCount(), 2);
        Check.due("with the weights", x.weightOf(0), 9);
        Check.send(x, 0, ONE + "clue 1 city 1 1;");
        x.load();
        Check.due("an earlier saved state is replaced", x.save(), 1);
        x.setAside(0);
        Check.due("the new one", x.restore(), 1);
        Check.due("the new one", x.isAside(0), false);
        Check.send(x, 0, "read 0;");
        Check.noArgument("an error", () -> x.executeCommands());
        x.save();
        x.restore();
        Check.due("the error code stays", x.errorCode(), 2);
        Check.due("the error position stays", x.errorPosition(), 5);
    }

    private static void promises64And65() {
        ColophonDetective x = new ColophonDetective();
        Check.due("empty at first", x.outputByte(0), -1);
        Check.due("no clue counts", x.formatVerdict(), 10);
        Check.due("no clue counts", Check.outputOf(x), "aldus 1494");
        x.addCityClue(999, 8, 1);
        x.read(7);
        Check.due("it stays until it is replaced", Check.outputOf(x), "aldus 1494");
        Check.due("all clues", x.formatVerdict(), 25);
        Check.due("all clues", Check.outputOf(x), "plantn 1556-6+0-1-2+3+4+5");
        x.setAside(1);
        Check.due("a shorter output", x.formatVerdict(), 23);
        Check.due("a shorter output", Check.outputOf(x), "plantn 1556-6+0-2+3+4+5");
        for (int wrong : new int[] {-1, 23, 24, 200, Integer.MIN_VALUE, Integer.MAX_VALUE}) {
            Check.due("byte " + wrong, x.outputByte(wrong), -1);
        }
        StringBuilder due = new StringBuilder("zyxwvu 1999");
        for (int clue = 39; clue >= 0; clue--) {
            due.append(clue % 2 == 0 ? '+' : '-').append(clue);
        }
        ColophonDetective y = new ColophonDetective();
        int length = Check.send(y, 0, "printer zyxwvu 1 1999 1999;");
        for (int clue = 0; clue < 40; clue++) {
            length = Check.send(y, length, "clue " + (clue + 1) + " city " + (1 + clue % 2) + " 1;");
        }
        y.load();
        y.read(40);
        Check.due("the longest output", y.formatVerdict(), due.length());
        Check.due("the longest output", Check.outputOf(y), due.toString());
    }
}
