/** Promises 8 and 10 to 27: printers, watermarks, editions and clues. */
public final class FactsTest {
    private static final int[] WRONG = {-1, 8, 40, 41, 1000000, Integer.MAX_VALUE, Integer.MIN_VALUE};

    public static void main(String[] args) {
        promises8And15And17And18();
        promise10();
        promise11();
        promises12And13And14();
        promise16();
        promises19To22();
        promises23And24();
        promise25();
        promise26();
        promise27();
        Check.finish("FactsTest");
    }

    private static String printers(int count) {
        StringBuilder text = new StringBuilder();
        for (int i = 0; i < count; i++) {
            text.append("printer p").append((char) ('a' + i)).append(' ').append(i).append(" 1500 1600;");
        }
        return text.toString();
    }

    private static void promises8And15And17And18() {
        for (int count = 1; count <= 8; count++) {
            Check.due("printers", Check.detectiveOf(printers(count)).printerCount(), count);
        }
        for (int count = 0; count <= 8; count++) {
            ColophonDetective x = Check.detectiveOf(printers(1) + "mark 1500 1501;".repeat(count));
            Check.due("watermarks", x.watermarkCount(), count);
        }
        for (int count = 0; count <= 12; count++) {
            ColophonDetective x = Check.detectiveOf(printers(1) + "edition pa 1500;".repeat(count));
            Check.due("editions", x.editionCount(), count);
        }
        for (int count = 0; count <= 40; count++) {
            ColophonDetective x = Check.detectiveOf(printers(1) + "clue 1 city 1 1;".repeat(count));
            Check.due("clues", x.clueCount(), count);
        }
    }

    private static void promise10() {
        ColophonDetective x = Check.detectiveOf(printers(8));
        for (int printer = 0; printer < 8; printer++) {
            Check.due("city of " + printer, x.cityOf(printer), printer);
        }
        for (int wrong : WRONG) {
            Check.noIndex("cityOf " + wrong, () -> x.cityOf(wrong));
        }
        Check.noIndex("cityOf 3", () -> new ColophonDetective().cityOf(3));
    }

    private static void promise11() {
        ColophonDetective x = Check.detectiveOf("printer a 1 1450 1450;printer b 1 1999 1999;printer c 1 1600 1700;");
        for (int year = 1450; year <= 1999; year++) {
            Check.due("a in " + year, x.isActive(0, year), year == 1450);
            Check.due("b in " + year, x.isActive(1, year), year == 1999);
            Check.due("c in " + year, x.isActive(2, year), year >= 1600 && year <= 1700);
        }
        for (int year : new int[] {1449, 2000, -1, 0, Integer.MIN_VALUE, Integer.MAX_VALUE}) {
            Check.noArgument("in " + year, () -> x.isActive(0, year));
            Check.noIndex("the printer is checked first", () -> x.isActive(3, year));
        }
        Check.noIndex("no such printer", () -> x.isActive(3, 1500));
        Check.noIndex("no such printer", () -> x.isActive(-1, 1500));
    }

    private static void promises12And13And14() {
        ColophonDetective x = Check.detectiveOf(printers(8) + "device pa 0;device pb 31;device ph 31;device pc 0;"
                + "device pc 0;device pd 16;device pd 17;type pa 0;type pb 15;type pd 7;type pd 8;type pd 8;");
        int[][] devices = {{0}, {31}, {0}, {16, 17}, {}, {}, {}, {31}};
        int[][] types = {{0}, {15}, {}, {7, 8}, {}, {}, {}, {}};
        for (int number = -40; number < 100; number++) {
            int owners = 0;
            for (int printer = 0; printer < 8; printer++) {
                boolean owns = contains(devices[printer], number);
                owners += owns ? 1 : 0;
                Check.due(printer + " device " + number, x.hasDevice(printer, number), owns);
                Check.due(printer + " type " + number, x.hasTypeface(printer, number), contains(types[printer], number));
            }
            Check.due("owners of " + number, x.deviceOwners(number), owners);
        }
        for (int number : new int[] {Integer.MIN_VALUE, Integer.MAX_VALUE, 1 << 30}) {
            Check.due("device " + number, x.hasDevice(0, number), false);
            Check.due("type " + number, x.hasTypeface(0, number), false);
            Check.due("owners of " + number, x.deviceOwners(number), 0);
        }
        for (int wrong : WRONG) {
            Check.noIndex("hasDevice of " + wrong, () -> x.hasDevice(wrong, 0));
            Check.noIndex("hasTypeface of " + wrong, () -> x.hasTypeface(wrong, 0));
        }
    }

    private static boolean contains(int[] numbers, int number) {
        for (int other : numbers) {
            if (other == number) {
                return true;
            }
        }
        return false;
    }

    private static void promise16() {
        ColophonDetective x = Check.detectiveOf(printers(1) + "mark 1450 1450;mark 1453 1454;mark 1700 1800;"
                + "mark 1997 1999;mark 1999 1999;");
        int[][] spans = {{1450, 1453}, {1453, 1457}, {1700, 1803}, {1997, 2002}, {1999, 2002}};
        for (int year = 1450; year <= 1999; year++) {
            int count = 0;
            for (int[] span : spans) {
                count += year >= span[0] && year <= span[1] ? 1 : 0;
            }
            Check.due("watermarks of " + year, x.watermarksOf(year), count);
        }
        for (int year : new int[] {1449, 2000, 2001, -1, Integer.MIN_VALUE, Integer.MAX_VALUE}) {
            Check.noArgument("watermarksOf " + year, () -> x.watermarksOf(year));
        }
        Check.due("no watermarks", Check.detectiveOf(printers(1)).watermarksOf(1500), 0);
    }

    private static void promises19To22() {
        ColophonDetective x = Check.detectiveOf(printers(1) + "mark 1500 1500;mark 1500 1500;clue 1 device 31 1;"
                + "clue 999 type 15 9;clue 20 mark 1 2;clue 30 city 9 3;clue 40 year 1999 4;");
        int[][] clues = {{1, 0, 31, 1}, {999, 1, 15, 9}, {20, 2, 1, 2}, {30, 3, 9, 3}, {40, 4, 1999, 4}};
        for (int clue = 0; clue < clues.length; clue++) {
            Check.due("page", x.pageOf(clue), clues[clue][0]);
            Check.due("kind", x.kindOf(clue), clues[clue][1]);
            Check.due("value", x.valueOf(clue), clues[clue][2]);
            Check.due("weight", x.weightOf(clue), clues[clue][3]);
        }
        for (int wrong : new int[] {-1, 5, 39, 40, Integer.MAX_VALUE, Integer.MIN_VALUE}) {
            Check.noIndex("page of " + wrong, () -> x.pageOf(wrong));
            Check.noIndex("kind of " + wrong, () -> x.kindOf(wrong));
            Check.noIndex("value of " + wrong, () -> x.valueOf(wrong));
            Check.noIndex("weight of " + wrong, () -> x.weightOf(wrong));
        }
    }

    private static void promises23And24() {
        ColophonDetective x = new ColophonDetective();
        x.read(2);
        x.setAside(1);
        x.setAside(4);
        for (int clue = 0; clue < 6; clue++) {
            Check.due(clue + " is read", x.isRead(clue), clue < 2);
            Check.due(clue + " is aside", x.isAside(clue), clue == 1 || clue == 4);
        }
        for (int wrong : new int[] {-1, 6, 39, 40, Integer.MAX_VALUE, Integer.MIN_VALUE}) {
            Check.noIndex("isRead " + wrong, () -> x.isRead(wrong));
            Check.noIndex("isAside " + wrong, () -> x.isAside(wrong));
        }
    }

    private static void promise25() {
        ColophonDetective x = Check.detectiveOf(printers(1) + "clue 10 city 1 1;clue 20 city 1 1;clue 10 city 2 1;"
                + "clue 999 city 1 1;clue 20 city 1 1;clue 1 city 1 1;");
        int[] order = {3, 1, 4, 0, 2, 5};
        for (int rank = 0; rank < order.length; rank++) {
            Check.due("rank " + rank, x.clueInOrder(rank), order[rank]);
        }
        for (int wrong : new int[] {-1, 6, 39, 40, Integer.MAX_VALUE, Integer.MIN_VALUE}) {
            Check.due("rank " + wrong, x.clueInOrder(wrong), -1);
        }
        x.read(2);
        x.setAside(3);
        x.addCityClue(20, 5, 5);
        Check.due("reading and setting aside do not matter", x.clueInOrder(0), 3);
        Check.due("a new clue comes behind those on its page", x.clueInOrder(3), 6);
        Check.due("and before the earlier pages", x.clueInOrder(4), 0);
        Check.due("the last rank", x.clueInOrder(6), 5);
        x.undo();
        Check.due("undone", x.clueInOrder(3), 0);
        Check.due("undone", x.clueInOrder(6), -1);
    }

    private static void promise26() {
        ColophonDetective x = Check.detectiveOf(printers(1) + "clue 10 city 1 1;clue 20 city 1 1;clue 10 city 1 1;");
        Check.due("at first", x.nextClue(), 1);
        x.setAside(1);
        Check.due("a clue set aside can be unread", x.nextClue(), 1);
        x.read(1);
        Check.due("after one", x.nextClue(), 0);
        x.addCityClue(500, 1, 1);
        Check.due("a new clue", x.nextClue(), 3);
        x.read(2);
        Check.due("after three", x.nextClue(), 2);
        x.read(1);
        Check.due("all are read", x.nextClue(), -1);
        Check.due("no clues", Check.detectiveOf(printers(1)).nextClue(), -1);
    }

    private static void promise27() {
        ColophonDetective x = new ColophonDetective();
        x.setAside(3);
        int[] weights = {5, 8, 10, 10, 16, 23};
        Check.due("none is read", x.countingWeight(), 0);
        for (int weight : weights) {
            x.read(1);
            Check.due("read and not set aside", x.countingWeight(), weight);
        }
        x.takeBack(3);
        Check.due("taken back", x.countingWeight(), 27);
        x.setWeight(3, 9);
        Check.due("weighed again", x.countingWeight(), 32);
        x.addCityClue(1, 1, 9);
        Check.due("an unread clue", x.countingWeight(), 32);
    }
}
