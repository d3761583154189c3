/** The boundary cases of the promises 8 and 10 to 27: printers, watermarks, editions and clues. */
public final class FactsEdgeTest {
    private static final String ONE = Texts.PRINTER;
    private static final String NO_YEAR = "Throws `IllegalArgumentException` if year is out of range";
    private static final int[] FAR_NUMBERS = {Integer.MIN_VALUE, -1000, -33, -32, -31, -17, -16, -15, -1, 16, 32, 33, 47,
        63, 64, 256, 65536, 1 << 30, Integer.MAX_VALUE};

    public static void main(String[] args) {
        printerCounts();
        cities();
        noPrinterForCityOf();
        yearsOfIsActive();
        noPrinterForIsActive();
        noYearForIsActive();
        anyDevice();
        noPrinterForHasDevice();
        anyTypeface();
        noPrinterForHasTypeface();
        ownersOfAnyDevice();
        watermarkCounts();
        yearsOfWatermarks();
        noYearForWatermarksOf();
        editionCounts();
        clueCounts();
        kindsOfClues();
        pagesOfClues();
        weightsOfClues();
        noClue();
        firstAndLastRank();
        noSuchRank();
        allCluesAreRead();
        noClueCounts();
        Document.wasTested("Promise 8");
        Document.wasTested(10, 27);
        Check.finish("FactsEdgeTest");
    }

    private static void printerCounts() {
        Document.about(8, "Returns 1 to 8.");
        Check.due("one", Check.detectiveOf(Texts.printers(1)).printerCount(), 1);
        Check.due("eight", Check.detectiveOf(Texts.printers(8)).printerCount(), 8);
        ColophonDetective x = Check.detectiveOf(Texts.printers(8));
        Check.send(x, 0, Texts.printers(9));
        Check.noArgument("nine", () -> x.load());
        Check.due("eight are left", x.printerCount(), 8);
    }

    private static void cities() {
        Document.about(10, "Returns 0 to 9.");
        for (int city = 0; city <= 9; city++) {
            Check.due("city " + city, Check.detectiveOf("printer a " + city + " 1500 1510;").cityOf(0), city);
        }
    }

    private static void noPrinterForCityOf() {
        Numbers.noPrinter(10, (x, printer) -> x.cityOf(printer));
    }

    private static void yearsOfIsActive() {
        Document.about(11, "a year, 1450 to 1999");
        ColophonDetective x = Check.detectiveOf("printer a 1 1450 1999;printer b 1 1451 1998;printer c 1 1500 1500;");
        Check.due("1450", x.isActive(0, 1450), true);
        Check.due("1999", x.isActive(0, 1999), true);
        Check.due("a year too early", x.isActive(1, 1450), false);
        Check.due("a year too late", x.isActive(1, 1999), false);
        Check.due("before the only year", x.isActive(2, 1499), false);
        Check.due("the only year", x.isActive(2, 1500), true);
        Check.due("after the only year", x.isActive(2, 1501), false);
    }

    private static void noPrinterForIsActive() {
        Numbers.noPrinter(11, (x, printer) -> x.isActive(printer, 1500));
        noPrinterButAWrongYear();
    }

    private static void noPrinterButAWrongYear() {
        ColophonDetective x = Check.detectiveOf(Texts.printers(3));
        for (int year : Check.outside(1450, 1999)) {
            Check.noIndex("no printer in " + year, () -> x.isActive(3, year));
        }
    }

    private static void noYearForIsActive() {
        Document.about(11, NO_YEAR);
        ColophonDetective x = Check.detectiveOf("printer a 1 1450 1999;");
        for (int year : Check.outside(1450, 1999)) {
            Check.noArgument("in " + year, () -> x.isActive(0, year));
        }
    }

    private static void anyDevice() {
        Document.about(12, "any number");
        ColophonDetective x = Check.detectiveOf(Texts.printers(1) + "device a 0;device a 15;device a 16;device a 31;");
        for (int device = 0; device <= 31; device++) {
            boolean due = device == 0 || device == 15 || device == 16 || device == 31;
            Check.due("device " + device, x.hasDevice(0, device), due);
        }
        for (int device : FAR_NUMBERS) {
            Check.due("device " + device, x.hasDevice(0, device), device == 16);
        }
    }

    private static void noPrinterForHasDevice() {
        Numbers.noPrinter(12, (x, printer) -> x.hasDevice(printer, 0));
        Numbers.noPrinter(12, (x, printer) -> x.hasDevice(printer, -1));
    }

    private static void anyTypeface() {
        Document.about(13, "any number");
        ColophonDetective x = Check.detectiveOf(Texts.printers(1) + "device a 16;device a 31;type a 0;type a 15;");
        for (int typeface = 0; typeface <= 31; typeface++) {
            Check.due("typeface " + typeface, x.hasTypeface(0, typeface), typeface == 0 || typeface == 15);
        }
        for (int typeface : FAR_NUMBERS) {
            Check.due("typeface " + typeface, x.hasTypeface(0, typeface), false);
        }
    }

    private static void noPrinterForHasTypeface() {
        Numbers.noPrinter(13, (x, printer) -> x.hasTypeface(printer, 0));
        Numbers.noPrinter(13, (x, printer) -> x.hasTypeface(printer, 99));
    }

    private static void ownersOfAnyDevice() {
        Document.about(14, "any number");
        StringBuilder text = new StringBuilder(Texts.printers(8));
        for (int printer = 0; printer < 8; printer++) {
            text.append("device ").append((char) ('a' + printer)).append(" 31;");
        }
        ColophonDetective x = Check.detectiveOf(text.append("device h 0;").toString());
        Check.due("all have it", x.deviceOwners(31), 8);
        Check.due("one has it", x.deviceOwners(0), 1);
        Check.due("nobody has it", x.deviceOwners(30), 0);
        for (int device : FAR_NUMBERS) {
            Check.due("device " + device, x.deviceOwners(device), 0);
        }
        Check.send(x, 0, Texts.printers(1) + "device a 31;");
        x.load();
        Check.due("printers of an earlier configuration do not count", x.deviceOwners(31), 1);
    }

    private static void watermarkCounts() {
        Document.about(15, "Returns 0 to 8.");
        Check.due("none", Check.detectiveOf(ONE).watermarkCount(), 0);
        Check.due("one", Check.detectiveOf(ONE + "mark 1500 1500;").watermarkCount(), 1);
        Check.due("eight", Check.detectiveOf(ONE + "mark 1500 1500;".repeat(8)).watermarkCount(), 8);
    }

    private static void yearsOfWatermarks() {
        Document.about(16, "a year, 1450 to 1999");
        ColophonDetective x = Check.detectiveOf(ONE + "mark 1450 1450;mark 1450 1999;mark 1996 1996;mark 1999 1999;"
                + "mark 1999 1999;mark 1451 1452;mark 1995 1995;mark 1994 1994;");
        int[][] due = {{1450, 2}, {1451, 3}, {1453, 3}, {1454, 2}, {1455, 2}, {1456, 1}, {1994, 2}, {1995, 3}, {1996, 4},
            {1997, 4}, {1998, 3}, {1999, 4}};
        for (int[] row : due) {
            Check.due("in " + row[0], x.watermarksOf(row[0]), row[1]);
        }
        Check.due("no watermarks", Check.detectiveOf(ONE).watermarksOf(1450), 0);
        Check.due("all watermarks", Check.detectiveOf(ONE + "mark 1500 1500;".repeat(8)).watermarksOf(1503), 8);
        Check.due("no watermark any more", Check.detectiveOf(ONE + "mark 1500 1500;".repeat(8)).watermarksOf(1504), 0);
    }

    private static void noYearForWatermarksOf() {
        Document.about(16, NO_YEAR);
        ColophonDetective x = Check.detectiveOf(ONE + "mark 1450 1999;");
        for (int year : Check.outside(1450, 1999)) {
            Check.noArgument("in " + year, () -> x.watermarksOf(year));
        }
        Check.noArgument("the stock of 1999 does not last to 2000", () -> x.watermarksOf(2000));
        Check.noArgument("no watermarks", () -> Check.detectiveOf(ONE).watermarksOf(1449));
    }

    private static void editionCounts() {
        Document.about(17, "Returns 0 to 12.");
        Check.due("none", Check.detectiveOf(ONE).editionCount(), 0);
        Check.due("one", Check.detectiveOf(ONE + "edition a 1500;").editionCount(), 1);
        Check.due("twelve", Check.detectiveOf(ONE + "edition a 1500;".repeat(12)).editionCount(), 12);
    }

    private static void clueCounts() {
        Document.about(18, "Returns 0 to 40.");
        Check.due("none", Check.detectiveOf(ONE).clueCount(), 0);
        ColophonDetective x = Check.detectiveOf(ONE + "clue 1 city 1 1;".repeat(39));
        Check.due("thirty-nine", x.clueCount(), 39);
        x.addCityClue(1, 1, 1);
        Check.due("forty", x.clueCount(), 40);
        Check.noState("a 41st", () -> x.addCityClue(1, 1, 1));
        Check.due("forty still", x.clueCount(), 40);
        x.undo();
        Check.due("thirty-nine again", x.clueCount(), 39);
    }

    // ---- clues

    private static void kindsOfClues() {
        Document.about(19, "Returns DEVICE, TYPEFACE, WATERMARK, CITY or DATE.");
        ColophonDetective x = Check.detectiveOf(ONE + "mark 1500 1500;");
        x.addDeviceClue(1, 0, 1);
        x.addTypefaceClue(1, 0, 1);
        x.addWatermarkClue(1, 0, 1);
        x.addCityClue(1, 0, 1);
        x.addDateClue(1, 1450, 1);
        int[] due = {ColophonDetective.DEVICE, ColophonDetective.TYPEFACE, ColophonDetective.WATERMARK,
            ColophonDetective.CITY, ColophonDetective.DATE};
        for (int clue = 0; clue < due.length; clue++) {
            Check.due("clue " + clue, x.kindOf(clue), due[clue]);
            Check.due("value of clue " + clue, x.valueOf(clue), clue == 4 ? 1450 : 0);
        }
    }

    private static void pagesOfClues() {
        Document.about(21, "Returns 1 to 999.");
        ColophonDetective x = Check.detectiveOf(ONE + "clue 1 city 1 1;clue 999 city 1 1;");
        Check.due("the lowest", x.pageOf(0), 1);
        Check.due("the highest", x.pageOf(1), 999);
    }

    private static void weightsOfClues() {
        Document.about(22, "Returns 1 to 9.");
        ColophonDetective x = Check.detectiveOf(ONE + "clue 1 city 1 1;clue 1 city 1 9;");
        Check.due("the lowest", x.weightOf(0), 1);
        Check.due("the highest", x.weightOf(1), 9);
    }

    private static void noClue() {
        Numbers.noClue(19, (x, clue) -> x.kindOf(clue));
        Numbers.noClue(20, (x, clue) -> x.valueOf(clue));
        Numbers.noClue(21, (x, clue) -> x.pageOf(clue));
        Numbers.noClue(22, (x, clue) -> x.weightOf(clue));
        Numbers.noClue(23, (x, clue) -> x.isRead(clue));
        Numbers.noClue(24, (x, clue) -> x.isAside(clue));
    }

    private static void firstAndLastRank() {
        Document.about(25, "0 for the clue that comes first");
        ColophonDetective x = Check.detectiveOf(ONE + "clue 2 city 1 1;clue 1 city 1 1;clue 3 city 1 1;");
        Check.due("the first", x.clueInOrder(0), 2);
        Check.due("the last", x.clueInOrder(2), 1);
        x.read(40);
        x.setAside(2);
        Check.due("a clue that is read and set aside keeps its rank", x.clueInOrder(0), 2);
        ColophonDetective full = Check.detectiveOf(ONE + "clue 7 city 1 1;".repeat(40));
        Check.due("the last of forty", full.clueInOrder(39), 39);
    }

    private static void noSuchRank() {
        Document.about(25, "Returns the number of the clue, or NONE if there is no such clue.");
        for (int count : new int[] {0, 1, 39, 40}) {
            ColophonDetective x = Check.detectiveOf(ONE + "clue 1 city 1 1;".repeat(count));
            for (int wrong : Check.outside(0, count - 1)) {
                Check.due("rank " + wrong + " of " + count, x.clueInOrder(wrong), -1);
            }
        }
    }

    private static void allCluesAreRead() {
        Document.about(26, "Returns the number of the clue, or NONE if all clues are read.");
        Check.due("no clues", Check.detectiveOf(ONE).nextClue(), -1);
        ColophonDetective x = Check.detectiveOf(ONE + "clue 1 city 1 1;".repeat(40));
        for (int clue = 0; clue < 40; clue++) {
            Check.due("after " + clue, x.nextClue(), clue);
            x.read(1);
        }
        Check.due("all are read", x.nextClue(), -1);
        x.undo();
        Check.due("the last one is unread again", x.nextClue(), 39);
        x.setAside(39);
        Check.due("an unread clue that is set aside", x.nextClue(), 39);
    }

    private static void noClueCounts() {
        Document.about(27, "Returns the sum of their weights.");
        Check.due("no clues", Check.detectiveOf(ONE).countingWeight(), 0);
        ColophonDetective x = Check.detectiveOf(ONE + "clue 1 city 1 9;".repeat(40));
        Check.due("none is read", x.countingWeight(), 0);
        x.read(40);
        Check.due("the greatest sum", x.countingWeight(), 360);
        for (int clue = 0; clue < 40; clue++) {
            x.setAside(clue);
        }
        Check.due("all are set aside", x.countingWeight(), 0);
    }
}
