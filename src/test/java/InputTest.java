/** Promises 1 to 7 and 9: the new object, the input buffer and the two texts that are parsed from it. */
public final class InputTest {
    private static final String PRINTER = Texts.PRINTER;
    private static final String EIGHT = "printer a 1 1500 1500;printer b 1 1500 1500;"
            + "printer c 1 1500 1500;printer d 1 1500 1500;printer e 1 1500 1500;"
            + "printer f 1 1500 1500;printer g 1 1500 1500;printer h 1 1500 1500;";
    private static final int SYNTAX = Texts.SYNTAX;
    private static final int RANGE = Texts.RANGE;
    private static final int NAME = Texts.NAME;
    private static final int LIMIT = Texts.LIMIT;

    public static void main(String[] args) {
        promise1();
        promise2();
        promise3();
        promise4();
        promise4Tokens();
        promise4Order();
        promise4Statements();
        promise4Limits();
        promise4Replaces();
        promise5();
        promise5Errors();
        promise5Limit();
        promise5Stops();
        promises6And7();
        promise9();
        Check.finish("InputTest");
    }

    private static void promise1() {
        ColophonDetective x = new ColophonDetective();
        Check.due("printers", x.printerCount(), 3);
        Check.due("watermarks", x.watermarkCount(), 2);
        Check.due("editions", x.editionCount(), 2);
        int[][] clues = {{200, 0, 4, 5}, {180, 2, 0, 3}, {180, 4, 1504, 2}, {90, 3, 3, 4}, {40, 1, 2, 6}, {12, 2, 1, 7}};
        Check.due("clues", x.clueCount(), clues.length);
        for (int clue = 0; clue < clues.length; clue++) {
            Check.due("page of " + clue, x.pageOf(clue), clues[clue][0]);
            Check.due("kind of " + clue, x.kindOf(clue), clues[clue][1]);
            Check.due("value of " + clue, x.valueOf(clue), clues[clue][2]);
            Check.due("weight of " + clue, x.weightOf(clue), clues[clue][3]);
            Check.due(clue + " is read", x.isRead(clue), false);
            Check.due(clue + " is aside", x.isAside(clue), false);
        }
        int[][] printers = {{1, 1494, 1515, 4, 1}, {2, 1502, 1559, 7, 1}, {3, 1555, 1589, 4, 2}};
        for (int printer = 0; printer < 3; printer++) {
            Check.due("city of " + printer, x.cityOf(printer), printers[printer][0]);
            for (int year = 1450; year <= 1999; year++) {
                Check.due(printer + " in " + year, x.isActive(printer, year),
                        year >= printers[printer][1] && year <= printers[printer][2]);
            }
            for (int number = 0; number < 32; number++) {
                Check.due(printer + " device " + number, x.hasDevice(printer, number), number == printers[printer][3]);
                Check.due(printer + " type " + number, x.hasTypeface(printer, number), number == printers[printer][4]);
            }
        }
        for (int year = 1450; year <= 1999; year++) {
            boolean isMarked = year >= 1500 && year <= 1509 || year >= 1556 && year <= 1563;
            Check.due("watermarks of " + year, x.watermarksOf(year), isMarked ? 1 : 0);
        }
        promise1Buffers();
    }

    private static void promise1Buffers() {
        ColophonDetective x = new ColophonDetective();
        Check.due("the buffer is empty", x.truncate(0), 0);
        Check.noArgument("the buffer is empty", () -> x.truncate(1));
        Check.due("the output is empty", x.outputByte(0), -1);
        Check.noState("nothing is saved", () -> x.restore());
        Check.noState("nothing is to undo", () -> x.undo());
        String[] names = {"aldus", "estien", "plantn"};
        for (int printer = 0; printer < names.length; printer++) {
            Check.send(x, 0, names[printer]);
            Check.due(names[printer], x.findPrinter(), printer);
            x.truncate(0);
        }
        x.read(1);
        Check.due("edition 0 is by aldus in 1501", x.matchingEdition(), -1);
        x.addDateClue(999, 1500, 9);
        x.read(1);
        Check.due("edition 0 is by aldus in 1501", x.matchingEdition(), 0);
        x.setAside(6);
        x.read(40);
        Check.due("edition 1 is by plantn in 1557", x.matchingEdition(), 1);
    }

    private static void promise2() {
        ColophonDetective x = new ColophonDetective();
        int p = 'p' << 24 | 'l' << 16 | 'a' << 8 | 'n';
        Check.due("append", x.append(p, 't' << 24 | 'n' << 16, -1, 0, 0x80000000), 20);
        x.truncate(6);
        Check.due("the first byte is the most significant one", x.findPrinter(), 2);
        x.truncate(0);
        for (int n = 1; n <= 70; n++) {
            Check.due("append " + n, x.append(0x20202020, 0, 0, 0, 0), 20 * n);
        }
        Check.noState("append beyond 1400", () -> x.append(0, 0, 0, 0, 0));
        Check.due("nothing was appended", x.truncate(1400), 1400);
        Check.due("truncate", x.truncate(1381), 1381);
        Check.noState("append beyond 1400 by one", () -> x.append(0, 0, 0, 0, 0));
        Check.noArgument("nothing was appended", () -> x.truncate(1382));
        Check.due("truncate", x.truncate(1380), 1380);
        Check.due("append up to 1400", x.append(0, 0, 0, 0, 0), 1400);
        promise2Order();
    }

    // Each byte of the five parameters is the first invalid one of a text in turn.
    private static void promise2Order() {
        for (int at = 0; at < 20; at++) {
            ColophonDetective x = new ColophonDetective();
            int[] words = {0x20202020, 0x20202020, 0x20202020, 0x20202020, 0x20202020};
            words[at / 4] ^= 0x80 << 8 * (3 - at % 4);
            x.append(words[0], words[1], words[2], words[3], words[4]);
            Check.noArgument("byte " + at, () -> x.executeCommands());
            Check.due("position of byte " + at, x.errorPosition(), at);
        }
    }

    private static void promise3() {
        ColophonDetective x = new ColophonDetective();
        Check.noArgument("truncate(-1)", () -> x.truncate(-1));
        Check.noArgument("truncate(min)", () -> x.truncate(Integer.MIN_VALUE));
        Check.noArgument("truncate(1) of nothing", () -> x.truncate(1));
        Check.due("truncate(0) of nothing", x.truncate(0), 0);
        Check.send(x, 0, "estienne");
        Check.noArgument("truncate(9) of 8", () -> x.truncate(9));
        Check.due("a refused call changed nothing", x.truncate(8), 8);
        Check.due("too long a name", x.findPrinter(), -1);
        Check.due("truncate(6)", x.truncate(6), 6);
        Check.due("estien", x.findPrinter(), 1);
        Check.noArgument("truncate(7) of 6", () -> x.truncate(7));
        Check.due("truncate(0)", x.truncate(0), 0);
        Check.send(x, 0, "read 12");
        x.truncate(6);
        Check.noArgument("the text ends too early", () -> x.executeCommands());
        Check.due("what was cut off is not seen", x.errorPosition(), 6);
        Check.send(x, 0, "read 1;read 1");
        x.truncate(7);
        Check.due("what was cut off is not seen", x.executeCommands(), 1);
        Check.send(x, 0, "read 1;");
        x.truncate(6);
        Check.due("what is appended follows what is left", Check.send(x, 6, "0 ;"), 9);
        x.setAside(5);
        Check.due("what is appended follows what is left", x.executeCommands(), 1);
        Check.due("all were read", x.nextClue(), -1);
    }

    private static void promise4() {
        Texts.sound(PRINTER, 0);
        Texts.sound(EIGHT, 0);
        Texts.sound(PRINTER + "printer b 0 1450 1450;device a 0;device b 31;device a 0;type a 0;type b 15;"
                + "mark 1450 1450;mark 1999 1999;edition b 1450;edition a 1999;clue 1 device 31 1;"
                + "clue 999 type 15 9;clue 1 mark 1 1;clue 1 city 0 1;clue 1 city 9 1;clue 1 year 1450 1;"
                + "clue 1 year 1999 1;", 7);
        Texts.sound(PRINTER + "clue 5 city 3 9;", 1);
        Texts.sound("printer printe 1 1500 1500;printer device 9 1999 1999;device device 3;edition printe 1450;", 0);
        ColophonDetective x = Check.detectiveOf(PRINTER + "printer b 9 1450 1999;device b 31;type b 15;"
                + "mark 1600 1700;edition b 1450;clue 7 mark 0 4;clue 9 year 1888 3;");
        Check.due("city", x.cityOf(1), 9);
        Check.due("first year", x.isActive(1, 1450), true);
        Check.due("last year", x.isActive(1, 1999), true);
        Check.due("device", x.hasDevice(1, 31), true);
        Check.due("device of the other", x.hasDevice(0, 31), false);
        Check.due("type", x.hasTypeface(1, 15), true);
        Check.due("mark", x.watermarksOf(1703), 1);
        Check.due("mark", x.watermarksOf(1704), 0);
        Check.due("page", x.pageOf(1), 9);
        Check.due("kind", x.kindOf(1), ColophonDetective.DATE);
        Check.due("value", x.valueOf(1), 1888);
        Check.due("weight", x.weightOf(1), 3);
        x.read(2);
        Check.due("verdict", x.verdictYear(), 1600);
        Check.due("edition", x.editionCount(), 1);
    }

    private static void promise4Tokens() {
        Texts.sound("  printer   a  1  1494  1515  ;   ", 0);
        Texts.sound("printer a1 1494 1515;device a2;clue1city 3 9;", 1);
        Texts.sound("printer a 0001 1494 1515;", 0);
        Texts.faultyAt("|", SYNTAX);
        Texts.faultyAt("   |", SYNTAX);
        Texts.faultyAt("printer a 1 1494 1515|", SYNTAX);
        Texts.faultyAt("printer a 1 1494 1515   |", SYNTAX);
        Texts.faultyAt("printer a |00001 1494 1515;", SYNTAX);
        Texts.faultyAt("printer a |10000 1494 1515;", SYNTAX);
        Texts.faultyAt("printer a 1 |149401515;", SYNTAX);
        Texts.faultyAt("printer |abcdefg 1 1494 1515;", SYNTAX);
        Texts.faultyAt("printer |1 1 1494 1515;", SYNTAX);
        Texts.faultyAt("printer |; 1 1494 1515;", SYNTAX);
        Texts.faultyAt("printer a |b 1494 1515;", SYNTAX);
        Texts.faultyAt("printer a 1 1494 1515|", SYNTAX);
        Texts.faultyAt("printer a 1 1494 1515 |printer", SYNTAX);
        Texts.faultyAt("printer a 1 1494 1515|,", SYNTAX);
        Texts.faultyAt("printer a 1 1494 1515;|;", SYNTAX);
        Texts.faultyAt("|printera 1 1494 1515;", SYNTAX);
        Texts.faultyAt("|print a 1 1494 1515;", SYNTAX);
        Texts.faultyAt("|Printer a 1 1494 1515;", SYNTAX);
        Texts.faultyAt("|pRinter a 1 1494 1515;", SYNTAX);
        Texts.faultyAt("printer a|A 1 1494 1515;", SYNTAX);
        Texts.faultyAt("printer a 1|\t1494 1515;", SYNTAX);
        Texts.faultyAt("printer a 1|\n1494 1515;", SYNTAX);
        Texts.faultyAt("printer a 1 1494|\0 1515;", SYNTAX);
        Texts.faultyAt("printer a |-1 1494 1515;", SYNTAX);
        for (char c = 0; c < 256; c++) {
            if (c != ' ' && c != ';' && !(c >= 'a' && c <= 'z') && !(c >= '0' && c <= '9')) {
                Texts.faulty(PRINTER + c, SYNTAX, PRINTER.length());
                Texts.faulty("printer a" + c + "1 1494 1515;", SYNTAX, 9);
            }
        }
    }

    private static void promise4Order() {
        String[] statements = {"printer b 2 1500 1501;", "device a 1;", "type a 1;", "mark 1500 1501;",
            "edition a 1500;", "clue 5 city 3 9;"};
        for (int first = 0; first < statements.length; first++) {
            if (first > 0) {
                Texts.faulty(statements[first], SYNTAX, 0);
            }
            for (int second = 0; second < statements.length; second++) {
                String text = PRINTER + statements[first];
                if (second < first) {
                    Texts.faulty(text + statements[second], SYNTAX, text.length());
                } else if (second > 0) {
                    Texts.sound(text + statements[second], first == 5 && second == 5 ? 2 : second == 5 ? 1 : 0);
                }
            }
        }
        Texts.faultyAt(PRINTER + "|book a 1;", SYNTAX);
        for (String word : new String[] {"printer", "device", "type", "mark", "edition", "clue"}) {
            Texts.faultyAt(PRINTER + "|x" + word.substring(1) + " a 1;", SYNTAX);
            Texts.faultyAt(PRINTER + "|" + word.substring(0, word.length() - 1) + "x a 1;", SYNTAX);
            Texts.faultyAt(PRINTER + "|" + word + "s a 1;", SYNTAX);
        }
        Texts.faultyAt(PRINTER + "|year a 1;", SYNTAX);
        Texts.faultyAt(EIGHT + "type a 1;|printer", SYNTAX);
    }

    private static void promise4Statements() {
        Texts.faultyAt("printer a |10 1494 1515;", RANGE);
        Texts.faultyAt("printer a 1 |1449 1515;", RANGE);
        Texts.faultyAt("printer a 1 |2000 2000;", RANGE);
        Texts.faultyAt("printer a 1 1494 |1493;", RANGE);
        Texts.faultyAt("printer a 1 1494 |2000;", RANGE);
        Texts.faultyAt(PRINTER + "printer |a 1 1494 1515;", NAME);
        Texts.faultyAt(PRINTER + "printer |aaaaaaa 1 1494 1515;", SYNTAX);
        Texts.faultyAt(PRINTER + "device |b 1;", NAME);
        Texts.faultyAt(PRINTER + "device |aa 1;", NAME);
        Texts.faultyAt(PRINTER + "device |bbbbbbb 1;", SYNTAX);
        Texts.faultyAt(PRINTER + "device |1 1;", SYNTAX);
        Texts.faultyAt(PRINTER + "device a |32;", RANGE);
        Texts.faultyAt(PRINTER + "device a |00032;", SYNTAX);
        Texts.faultyAt(PRINTER + "device a 31|", SYNTAX);
        Texts.faultyAt(PRINTER + "device a |;", SYNTAX);
        Texts.faultyAt(PRINTER + "type |b 1;", NAME);
        Texts.faultyAt(PRINTER + "type a |16;", RANGE);
        Texts.faultyAt(PRINTER + "mark |1449 1500;", RANGE);
        Texts.faultyAt(PRINTER + "mark |2000 2000;", RANGE);
        Texts.faultyAt(PRINTER + "mark 1500 |1499;", RANGE);
        Texts.faultyAt(PRINTER + "mark 1500 |2000;", RANGE);
        Texts.faultyAt(PRINTER + "mark |a 1500 1500;", SYNTAX);
        Texts.faultyAt(PRINTER + "edition |z 1500;", NAME);
        Texts.faultyAt(PRINTER + "edition a |1449;", RANGE);
        Texts.faultyAt(PRINTER + "edition a |2000;", RANGE);
        Texts.faultyAt(PRINTER + "clue |0 city 3 9;", RANGE);
        Texts.faultyAt(PRINTER + "clue |1000 city 3 9;", RANGE);
        Texts.faultyAt(PRINTER + "clue 1 |town 3 9;", SYNTAX);
        Texts.faultyAt(PRINTER + "clue 1 |3 3 9;", SYNTAX);
        Texts.faultyAt(PRINTER + "clue 1 |citys 3 9;", SYNTAX);
        Texts.faultyAt(PRINTER + "clue 1 device |32 9;", RANGE);
        Texts.faultyAt(PRINTER + "clue 1 type |16 9;", RANGE);
        Texts.faultyAt(PRINTER + "clue 1 mark |0 9;", RANGE);
        Texts.faultyAt(PRINTER + "mark 1500 1500;clue 1 mark |1 9;", RANGE);
        Texts.faultyAt(PRINTER + "clue 1 city |10 9;", RANGE);
        Texts.faultyAt(PRINTER + "clue 1 year |1449 9;", RANGE);
        Texts.faultyAt(PRINTER + "clue 1 year |2000 9;", RANGE);
        Texts.faultyAt(PRINTER + "clue 1 city 9 |0;", RANGE);
        Texts.faultyAt(PRINTER + "clue 1 city 9 |10;", RANGE);
        Texts.faultyAt(PRINTER + "clue 1 city 9 1 |1;", SYNTAX);
    }

    private static void promise4Limits() {
        Texts.faultyAt(EIGHT + "|printer", LIMIT);
        Texts.faultyAt(EIGHT + "|printer a 1 1500 1500;", LIMIT);
        Texts.sound(PRINTER + "mark 1500 1500;".repeat(8) + "edition a 1500;", 0);
        Texts.faultyAt(PRINTER + "mark 1500 1500;".repeat(8) + "|mark", LIMIT);
        Texts.faultyAt(PRINTER + "mark 1500 1500;".repeat(8) + "edition a 1500;|mark", SYNTAX);
        Texts.sound(PRINTER + "edition a 1500;".repeat(12), 0);
        Texts.faultyAt(PRINTER + "edition a 1500;".repeat(12) + "|edition", LIMIT);
        Texts.sound(PRINTER + "clue 5 city 3 9;".repeat(40), 40);
        Texts.faultyAt(PRINTER + "clue 5 city 3 9;".repeat(40) + "|clue", LIMIT);
        Texts.faultyAt(PRINTER + "clue 5 city 3 9;".repeat(40) + "|edition", SYNTAX);
        Texts.sound(PRINTER + "device a 1;".repeat(60) + "type a 1;".repeat(60), 0);
    }

    private static void promise4Replaces() {
        ColophonDetective x = new ColophonDetective();
        x.save();
        x.formatVerdict();
        x.read(3);
        x.setAside(1);
        Check.send(x, 0, "printer b 4 1600 1700;clue 5 city 4 2;clue 6 city 4 2;");
        Check.due("load", x.load(), 2);
        Check.due("printers", x.printerCount(), 1);
        Check.due("watermarks", x.watermarkCount(), 0);
        Check.due("editions", x.editionCount(), 0);
        Check.due("clue 0 is unread", x.isRead(0), false);
        Check.due("clue 1 is not aside", x.isAside(1), false);
        Check.due("no device is left over", x.hasDevice(0, 4), false);
        Check.due("no typeface is left over", x.hasTypeface(0, 1), false);
        Check.due("reading order", x.clueInOrder(0), 1);
        Check.noState("nothing is to undo", () -> x.undo());
        Check.due("the output stays", Check.outputOf(x), "aldus 1494");
        Check.due("the saved state stays", x.restore(), 6);
        Check.due("the saved state stays", x.printerCount(), 3);
        x.read(2);
        Check.send(x, 0, "printer b 4 1600 1700;device b 5;clue 5 city 4;");
        Check.noArgument("load", () -> x.load());
        Check.due("nothing changed", x.clueCount(), 6);
        Check.due("nothing changed", x.deviceOwners(5), 0);
        Check.due("nothing changed", x.isRead(1), true);
        Check.due("the history stays after an error", x.undo(), 0);
        Check.due("the operation is undone", x.isRead(0), false);
    }

    private static void promise5() {
        ColophonDetective x = new ColophonDetective();
        int done = Check.run(x, "read 2;clue 300 device 7 9; clue 1 type 15 1;clue 2 mark 1 2;clue 3 city 9 3;"
                + "clue 4 year 1999 4;aside 2;aside 3;back 2;weigh 1 9;lend aldus estien 4;");
        Check.due("commands", done, 11);
        Check.noArgument("the buffer is empty", () -> x.truncate(1));
        int[][] clues = {{300, 0, 7, 9}, {1, 1, 15, 1}, {2, 2, 1, 2}, {3, 3, 9, 3}, {4, 4, 1999, 4}};
        Check.due("clues", x.clueCount(), 11);
        for (int i = 0; i < clues.length; i++) {
            Check.due("page", x.pageOf(6 + i), clues[i][0]);
            Check.due("kind", x.kindOf(6 + i), clues[i][1]);
            Check.due("value", x.valueOf(6 + i), clues[i][2]);
            Check.due("weight", x.weightOf(6 + i), clues[i][3]);
        }
        Check.due("read", x.isRead(1), true);
        Check.due("not read", x.isRead(2), false);
        Check.due("back", x.isAside(2), false);
        Check.due("aside", x.isAside(3), true);
        Check.due("weigh", x.weightOf(1), 9);
        Check.due("lend", x.hasDevice(0, 4), false);
        Check.due("lend", x.hasDevice(1, 4), true);
        Check.due("it is one operation", x.undo(), 0);
        Check.due("all of it is undone", x.clueCount(), 6);
        Check.due("all of it is undone", x.isRead(0), false);
        Check.due("all of it is undone", x.hasDevice(0, 4), true);
        Check.due("the smallest numbers", Check.run(x, "aside 0;back 0;weigh 0 1;clue 1 device 0 1;"), 4);
        Check.due("weigh 0", x.weightOf(0), 1);
        x.undo();
        ColophonDetective y = Check.detectiveOf(PRINTER + "printer b 1 1500 1500;device a 0;");
        Check.due("the smallest device", Check.run(y, "lend a b 0;"), 1);
        Check.due("the smallest device", y.hasDevice(1, 0), true);
        Check.due("the greatest numbers", Check.run(y, "clue 999 device 31 9;".repeat(29)), 29);
        Check.due("the greatest numbers", Check.run(y, "clue 999 device 31 9;".repeat(11) + "read 40;weigh 39 9;aside 39;back 39;"), 15);
        Check.due("no command", Check.run(x, ""), 0);
        Check.due("no command", Check.run(x, "   "), 0);
        Check.due("they are operations", x.undo(), 1);
        Check.due("they are operations", x.undo(), 0);
    }

    private static void promise5Errors() {
        Texts.faultyCommands("read 1;|look;", SYNTAX);
        Texts.faultyCommands("read 1;read |0;", RANGE);
        Texts.faultyCommands("read 1;read |41;", RANGE);
        Texts.faultyCommands("read 1;read 40|", SYNTAX);
        Texts.faultyCommands("read 1;|;", SYNTAX);
        Texts.faultyCommands("read 1;|printer", SYNTAX);
        Texts.faultyCommands("read 1;|device", SYNTAX);
        Texts.faultyCommands("read 1;read |one", SYNTAX);
        Texts.faultyCommands("read 1;read |00001;", SYNTAX);
        Texts.faultyCommands("read 1;aside |40;", RANGE);
        Texts.faultyCommands("read 1;aside |;", SYNTAX);
        Texts.faultyCommands("read 1;back |40;", RANGE);
        Texts.faultyCommands("read 1;weigh |40 1;", RANGE);
        Texts.faultyCommands("read 1;weigh 39 |0;", RANGE);
        Texts.faultyCommands("read 1;weigh 39 |10;", RANGE);
        Texts.faultyCommands("read 1;weigh 39|", SYNTAX);
        Texts.faultyCommands("read 1;lend |none aldus 4;", NAME);
        Texts.faultyCommands("read 1;lend aldus |none 4;", NAME);
        Texts.faultyCommands("read 1;lend |nonenon aldus 4;", SYNTAX);
        Texts.faultyCommands("read 1;lend aldus |nonenon 4;", SYNTAX);
        Texts.faultyCommands("read 1;lend aldus |4 4;", SYNTAX);
        Texts.faultyCommands("read 1;lend aldus plantn |32;", RANGE);
        Texts.faultyCommands("read 1;clue |0 city 1 1;", RANGE);
        Texts.faultyCommands("read 1;clue |1000 city 1 1;", RANGE);
        Texts.faultyCommands("read 1;clue 1 |read 1 1;", SYNTAX);
        Texts.faultyCommands("read 1;clue 1 device |32 1;", RANGE);
        Texts.faultyCommands("read 1;clue 1 type |16 1;", RANGE);
        Texts.faultyCommands("read 1;clue 1 mark |2 1;", RANGE);
        Texts.faultyCommands("read 1;clue 1 city |10 1;", RANGE);
        Texts.faultyCommands("read 1;clue 1 year |1449 1;", RANGE);
        Texts.faultyCommands("read 1;clue 1 city 1 |0;", RANGE);
        Texts.faultyCommands("read 1;clue 1 city 1 |10;", RANGE);
        Texts.faultyCommands("read 1;|#", SYNTAX);
        for (String word : new String[] {"clue", "read", "aside", "back", "weigh", "lend"}) {
            Texts.faultyCommands("read 1;|x" + word.substring(1) + " 1;", SYNTAX);
            Texts.faultyCommands("read 1;|" + word.substring(0, word.length() - 1) + "x 1;", SYNTAX);
            Texts.faultyCommands("read 1;|" + word.substring(0, word.length() - 1) + " 1;", SYNTAX);
        }
        for (String word : new String[] {"device", "type", "mark", "city", "year"}) {
            Texts.faultyCommands("read 1;clue 1 |x" + word.substring(1) + " 1 1;", SYNTAX);
            Texts.faultyCommands("read 1;clue 1 |" + word.substring(0, word.length() - 1) + "x 1 1;", SYNTAX);
            Texts.faultyCommands("read 1;clue 1 |" + word + "s 1 1;", SYNTAX);
        }
    }

    private static void promise5Limit() {
        ColophonDetective x = new ColophonDetective();
        Check.due("30 commands", Check.run(x, "read 1;".repeat(30)), 30);
        for (String word : new String[] {"clue", "read", "aside", "back", "weigh", "lend"}) {
            Texts.faultyCommands("read 1;".repeat(30) + "|" + word, LIMIT);
            Texts.faultyCommands("read 1;".repeat(30) + "|" + word + "s", SYNTAX);
        }
        Texts.faultyCommands("read 1;".repeat(30) + "|;", SYNTAX);
        Texts.faultyCommands("read 1;".repeat(30) + "|1", SYNTAX);
    }

    private static void promise5Stops() {
        String[] stopping = {"aside 39;", "aside 0;", "back 39;", "back 1;", "weigh 39 1;", "lend aldus aldus 4;",
            "lend aldus plantn 5;"};
        for (String command : stopping) {
            ColophonDetective x = new ColophonDetective();
            Check.due(command, Check.run(x, "aside 0;read 1;" + command + "read 1;"), 2);
            Check.due("no error code after " + command, x.errorCode(), 0);
            Check.due("no error position after " + command, x.errorPosition(), -1);
            Check.due("what came before stays: " + command, x.isRead(0), true);
            Check.due("what came later is not done: " + command, x.isRead(1), false);
            Check.due("it is one operation: " + command, x.undo(), 0);
            Check.due("it is undone: " + command, x.isAside(0), false);
        }
        ColophonDetective full = Check.detectiveOf(PRINTER + "clue 1 city 1 1;".repeat(39));
        Check.due("the 41st clue", Check.run(full, "clue 1 city 1 1;aside 39;clue 1 city 1 1;read 1;"), 2);
        Check.due("the 40th clue", full.clueCount(), 40);
        ColophonDetective first = new ColophonDetective();
        Check.due("the first command stops", Check.run(first, "back 0;read 1;"), 0);
        Check.due("it is an operation nevertheless", first.undo(), 0);
    }

    private static void promises6And7() {
        ColophonDetective x = new ColophonDetective();
        Check.due("no call yet", x.errorCode(), 0);
        Check.due("no call yet", x.errorPosition(), -1);
        Check.send(x, 0, "read 0;");
        Check.noArgument("read 0", () -> x.executeCommands());
        Check.due("after an error", x.errorCode(), RANGE);
        Check.due("after an error", x.errorPosition(), 5);
        x.save();
        x.read(1);
        x.undo();
        x.restore();
        x.formatVerdict();
        Check.send(x, 0, "#");
        x.findPrinter();
        Check.due("other calls do not change it", x.errorCode(), RANGE);
        Check.due("other calls do not change it", x.errorPosition(), 5);
        Check.noArgument("load", () -> x.load());
        Check.due("the most recent call", x.errorCode(), SYNTAX);
        Check.due("the most recent call", x.errorPosition(), 0);
        Check.run(x, "read 1;");
        Check.due("after a success", x.errorCode(), 0);
        Check.due("after a success", x.errorPosition(), -1);
        Check.noArgument("load of nothing", () -> x.load());
        Check.due("of nothing", x.errorCode(), SYNTAX);
        Check.due("of nothing", x.errorPosition(), 0);
        Check.send(x, 0, PRINTER);
        x.load();
        Check.due("after a success", x.errorCode(), 0);
        Check.due("after a success", x.errorPosition(), -1);
    }

    private static void promise9() {
        ColophonDetective x = Check.detectiveOf("printer a 1 1500 1500;printer aa 1 1500 1500;"
                + "printer z 1 1500 1500;printer zzzzzz 1 1500 1500;printer ba 1 1500 1500;");
        Check.due("an empty buffer", x.findPrinter(), -1);
        String[] texts = {"a", "aa", "z", "zzzzzz", "ba", "ab", "zzzzzzz", "zz", " a", "a ", "a;", "A", "a1", "1", "", "\0",
            "b", "azzzzzz", "az"};
        for (int i = 0; i < texts.length; i++) {
            int length = Check.send(x, 0, texts[i]);
            Check.due("\"" + texts[i] + "\"", x.findPrinter(), i < 5 ? i : -1);
            Check.due("the buffer stays", x.truncate(length), length);
            x.truncate(0);
        }
    }
}
