/** The boundary cases that the terms name: printers, watermarks, clues, candidates and what is undone. */
public final class TermsEdgeTest {
    private static final String ONE = Texts.PRINTER;
    private static final String TWO = Texts.printers(2);
    private static final int SYNTAX = Texts.SYNTAX;
    private static final int RANGE = Texts.RANGE;
    private static final int NAME = Texts.NAME;
    private static final int LIMIT = Texts.LIMIT;

    public static void main(String[] args) {
        oneToEightPrinters();
        namesOfOneToSixLetters();
        namesAreDifferent();
        cities();
        yearsOfActivity();
        devicesAndTypefaces();
        nothingOwnedAtFirst();
        upToEightWatermarks();
        yearsOfWatermarks();
        upToTwelveEditions();
        yearsOfEditions();
        Document.wasTested("Printers and watermarks");
        upToFortyClues();
        pagesAndWeights();
        kindsAndValues();
        unreadAtFirst();
        samePage();
        everyClueCanBeSetAside();
        readAndNotSetAside();
        Document.wasTested("Clues");
        firstAndLastYear();
        clueOfAPrinter();
        clueOfAWatermark();
        clueOfAYear();
        onlyCluesThatCount();
        earliestOfSeveral();
        equalScores();
        firstOfTheRanking();
        noCandidateExplainsBoth();
        contradictionsOfCluesThatDoNotCount();
        editionsOneYearApart();
        Document.wasTested("Candidates");
        eachOperationIsUndone();
        commandsAreOneOperation();
        eightOperations();
        ringOfOperations();
        refusedOperations();
        refusedOperationsAreNotUndone();
        firstConditionFirst();
        predictions();
        Document.wasTested("Undo");
        Check.finish("TermsEdgeTest");
    }

    // ---- printers and watermarks

    private static void about(String words) {
        Document.about("Printers and watermarks", words);
    }

    private static void oneToEightPrinters() {
        about("There are 1 to 8 printers, numbered from 0.");
        Texts.faultyAt("|", SYNTAX);
        for (int count = 1; count <= 8; count++) {
            ColophonDetective x = Check.detectiveOf(Texts.printers(count));
            int beyond = count;
            Check.due("printers", x.printerCount(), count);
            Check.due("the first", x.cityOf(0), 0);
            Check.due("the last", x.cityOf(count - 1), count - 1);
            Check.noIndex("printer " + beyond, () -> x.cityOf(beyond));
        }
        Texts.faultyAt(Texts.printers(8) + "|printer i 8 1500 1510;", LIMIT);
    }

    private static void namesOfOneToSixLetters() {
        about("a name of 1 to 6 letters");
        String[] names = {"a", "z", "ab", "abc", "abcd", "abcde", "abcdef", "zzzzzz", "aaaaaa"};
        for (String name : names) {
            ColophonDetective x = Check.detectiveOf("printer " + name + " 1 1500 1510;");
            Check.send(x, 0, name);
            Check.due(name, x.findPrinter(), 0);
        }
        Texts.faultyAt("printer |abcdefg 1 1500 1510;", SYNTAX);
        Texts.faultyAt("printer |1 1500 1510;", SYNTAX);
        Texts.faultyAt("printer |;", SYNTAX);
    }

    private static void namesAreDifferent() {
        about("(all names are different)");
        Texts.faultyAt("printer ab 1 1500 1510;printer |ab 2 1500 1510;", NAME);
        Texts.faultyAt(Texts.printers(7) + "printer |a 1 1500 1510;", NAME);
        Texts.faultyAt(Texts.printers(7) + "printer |g 1 1500 1510;", NAME);
        String[] names = {"a", "aa", "aaa", "aaaaaa", "ab", "ba", "b", "z"};
        StringBuilder text = new StringBuilder();
        for (String name : names) {
            text.append("printer ").append(name).append(" 1 1500 1510;");
        }
        ColophonDetective x = Check.detectiveOf(text.toString());
        for (int printer = 0; printer < names.length; printer++) {
            Check.send(x, 0, names[printer]);
            Check.due(names[printer], x.findPrinter(), printer);
            x.truncate(0);
        }
    }

    private static void cities() {
        about("a city (0 to 9)");
        Check.due("the lowest", Check.detectiveOf("printer a 0 1500 1510;").cityOf(0), 0);
        Check.due("the highest", Check.detectiveOf("printer a 9 1500 1510;").cityOf(0), 9);
        Texts.faultyAt("printer a |10 1500 1510;", RANGE);
    }

    private static void yearsOfActivity() {
        about("(1450 to 1999; the last year is not less than the first), devices");
        ColophonDetective x = Check.detectiveOf("printer a 1 1450 1450;printer b 1 1999 1999;printer c 1 1450 1999;");
        Check.due("the first year alone", x.bestYears(0), 1);
        Check.due("the last year alone", x.bestYears(1), 1);
        Check.due("all years", x.bestYears(2), 550);
        Texts.faultyAt("printer a 1 |1449 1999;", RANGE);
        Texts.faultyAt("printer a 1 |2000 2000;", RANGE);
        Texts.faultyAt("printer a 1 1450 |1449;", RANGE);
        Texts.faultyAt("printer a 1 1450 |2000;", RANGE);
        Texts.faultyAt("printer a 1 1999 |1998;", RANGE);
        Texts.faultyAt("printer a 1 1999 |2000;", RANGE);
    }

    private static void devicesAndTypefaces() {
        about("devices (numbers from 0 to 31)");
        ColophonDetective x = Check.detectiveOf(ONE + "device a 0;device a 31;type a 0;type a 15;");
        for (int number = 0; number <= 31; number++) {
            Check.due("device " + number, x.hasDevice(0, number), number == 0 || number == 31);
        }
        Texts.faultyAt(ONE + "device a |32;", RANGE);
        about("typefaces (numbers from 0 to 15)");
        for (int number = 0; number <= 31; number++) {
            Check.due("typeface " + number, x.hasTypeface(0, number), number == 0 || number == 15);
        }
        Texts.faultyAt(ONE + "type a |16;", RANGE);
    }

    private static void nothingOwnedAtFirst() {
        about("At first a printer has no devices and no typefaces.");
        StringBuilder rich = new StringBuilder(ONE);
        for (int number = 0; number <= 31; number++) {
            rich.append("device a ").append(number).append(';');
        }
        for (int number = 0; number <= 15; number++) {
            rich.append("type a ").append(number).append(';');
        }
        ColophonDetective x = Check.detectiveOf(rich.toString());
        Check.send(x, 0, TWO);
        x.load();
        for (int number = 0; number <= 31; number++) {
            Check.due("device " + number, x.deviceOwners(number), 0);
            Check.due("typeface " + number, x.hasTypeface(0, number) || x.hasTypeface(1, number), false);
        }
    }

    private static void upToEightWatermarks() {
        about("There are 0 to 8 watermarks, numbered from 0.");
        for (int count = 0; count <= 8; count++) {
            ColophonDetective x = Check.detectiveOf(ONE + "mark 1500 1510;".repeat(count));
            int beyond = count;
            Check.due("watermarks", x.watermarkCount(), count);
            Check.noArgument("watermark " + count, () -> x.addWatermarkClue(1, beyond, 1));
            for (int mark = 0; mark < count; mark++) {
                Check.due("watermark " + mark, x.addWatermarkClue(1, mark, 1), mark);
            }
        }
        Texts.faultyAt(ONE + "mark 1500 1510;".repeat(8) + "|mark 1500 1510;", LIMIT);
    }

    private static void yearsOfWatermarks() {
        about("A watermark has a first and a last year (1450 to 1999; the last year is not less than the first).");
        ColophonDetective x = Check.detectiveOf(ONE + "mark 1450 1450;mark 1999 1999;mark 1450 1999;");
        Check.due("the first year", x.watermarksOf(1450), 2);
        Check.due("the last year", x.watermarksOf(1999), 2);
        Texts.faultyAt(ONE + "mark |1449 1999;", RANGE);
        Texts.faultyAt(ONE + "mark |2000 2000;", RANGE);
        Texts.faultyAt(ONE + "mark 1450 |1449;", RANGE);
        Texts.faultyAt(ONE + "mark 1450 |2000;", RANGE);
        Texts.faultyAt(ONE + "mark 1999 |1998;", RANGE);
        Texts.faultyAt(ONE + "mark 1999 |2000;", RANGE);
    }

    private static void upToTwelveEditions() {
        about("There are 0 to 12 editions, numbered from 0");
        for (int count = 0; count <= 12; count++) {
            ColophonDetective x = Check.detectiveOf("printer a 1 1500 1600;" + "edition a 1550;".repeat(count)
                    + "clue 1 city 1 1;");
            Check.due("editions", x.editionCount(), count);
        }
        Texts.faultyAt(ONE + "edition a 1500;".repeat(12) + "|edition a 1500;", LIMIT);
        ColophonDetective first = Check.detectiveOf("printer a 1 1500 1600;" + "edition a 1500;".repeat(12));
        Check.due("the first one", first.matchingEdition(), 0);
        ColophonDetective last = Check.detectiveOf("printer a 1 1500 1600;" + "edition a 1600;".repeat(11)
                + "edition a 1500;");
        Check.due("the last one", last.matchingEdition(), 11);
    }

    private static void yearsOfEditions() {
        about("an edition has a printer and a year (1450 to 1999)");
        Check.due("1450", Check.detectiveOf("printer a 1 1450 1450;edition a 1450;").matchingEdition(), 0);
        Check.due("1999", Check.detectiveOf("printer a 1 1999 1999;edition a 1999;").matchingEdition(), 0);
        Texts.faultyAt(ONE + "edition a |1449;", RANGE);
        Texts.faultyAt(ONE + "edition a |2000;", RANGE);
        Texts.sound("printer a 1 1500 1500;edition a 1999;", 0);
    }

    // ---- clues

    private static void aboutClues(String words) {
        Document.about("Clues", words);
    }

    private static void upToFortyClues() {
        aboutClues("There are at most 40 clues, numbered from 0.");
        ColophonDetective x = Check.detectiveOf(ONE);
        Check.due("none", x.clueCount(), 0);
        Check.noIndex("clue 0 of none", () -> x.pageOf(0));
        for (int clue = 0; clue < 40; clue++) {
            Check.due("clue " + clue, x.addCityClue(100 + clue, 1, 1), clue);
        }
        Check.noState("clue 40", () -> x.addCityClue(1, 1, 1));
        Check.due("forty", x.clueCount(), 40);
        Check.due("the page of the first", x.pageOf(0), 100);
        Check.due("the page of the last", x.pageOf(39), 139);
        Check.noIndex("clue 40 of forty", () -> x.pageOf(40));
        Texts.sound(ONE + "clue 1 city 1 1;".repeat(40), 40);
        Texts.faultyAt(ONE + "clue 1 city 1 1;".repeat(40) + "|clue 1 city 1 1;", LIMIT);
    }

    private static void pagesAndWeights() {
        aboutClues("A clue has a page (1 to 999), a kind, a value and a weight (1 to 9).");
        ColophonDetective x = Check.detectiveOf(ONE + "clue 1 city 1 1;clue 999 city 1 9;");
        Check.due("the lowest page", x.pageOf(0), 1);
        Check.due("the highest page", x.pageOf(1), 999);
        Check.due("the lowest weight", x.weightOf(0), 1);
        Check.due("the highest weight", x.weightOf(1), 9);
        Texts.faultyAt(ONE + "clue |0 city 1 1;", RANGE);
        Texts.faultyAt(ONE + "clue |1000 city 1 1;", RANGE);
        Texts.faultyAt(ONE + "clue 1 city 1 |0;", RANGE);
        Texts.faultyAt(ONE + "clue 1 city 1 |10;", RANGE);
    }

    private static void kindsAndValues() {
        aboutClues("The kinds and their values are: DEVICE (a device), TYPEFACE (a typeface), WATERMARK (the number "
                + "of a watermark), CITY (a city) and DATE (a year, 1450 to 1999).");
        String[] kinds = {"device", "type", "mark", "city", "year"};
        int[] lowest = {0, 0, 0, 0, 1450};
        int[] highest = {31, 15, 2, 9, 1999};
        String text = ONE + "mark 1500 1510;".repeat(3);
        for (int kind = 0; kind < kinds.length; kind++) {
            String clue = "clue 1 " + kinds[kind] + " ";
            ColophonDetective x = Check.detectiveOf(text + clue + lowest[kind] + " 1;" + clue + highest[kind] + " 1;");
            Check.due("the kind of " + kinds[kind], x.kindOf(0), kind);
            Check.due("the lowest " + kinds[kind], x.valueOf(0), lowest[kind]);
            Check.due("the highest " + kinds[kind], x.valueOf(1), highest[kind]);
            Texts.faultyAt(text + clue + "|" + (highest[kind] + 1) + " 1;", RANGE);
        }
        Texts.faultyAt(text + "clue 1 year |1449 1;", RANGE);
    }

    private static void unreadAtFirst() {
        aboutClues("A clue is unread at first.");
        ColophonDetective x = new ColophonDetective();
        x.read(40);
        Check.send(x, 0, ONE + "clue 1 city 1 1;".repeat(6));
        x.load();
        Check.run(x, "clue 1 city 1 1;");
        x.addCityClue(1, 1, 1);
        for (int clue = 0; clue < 8; clue++) {
            Check.due("clue " + clue, x.isRead(clue), false);
        }
    }

    private static void samePage() {
        aboutClues("The reading order of the clues is by descending pages, and clues on the same page come in the "
                + "order of ascending numbers.");
        ColophonDetective same = Check.detectiveOf(ONE + "clue 999 city 1 1;".repeat(20));
        ColophonDetective rising = Check.detectiveOf(ONE);
        for (int clue = 0; clue < 40; clue++) {
            rising.addCityClue(960 + clue, 1, 1);
        }
        for (int rank = 0; rank < 20; rank++) {
            same.addCityClue(999, 1, 1);
        }
        for (int rank = 0; rank < 40; rank++) {
            Check.due("all on one page, rank " + rank, same.clueInOrder(rank), rank);
            Check.due("ascending pages, rank " + rank, rising.clueInOrder(rank), 39 - rank);
        }
    }

    private static void everyClueCanBeSetAside() {
        aboutClues("A clue can be set aside.");
        ColophonDetective x = Check.detectiveOf(ONE + "clue 1 city 1 1;".repeat(40));
        x.read(20);
        for (int clue = 0; clue < 40; clue++) {
            x.setAside(clue);
        }
        for (int clue = 0; clue < 40; clue++) {
            Check.due("clue " + clue, x.isAside(clue), true);
        }
        Check.due("none counts", x.countingWeight(), 0);
    }

    private static void readAndNotSetAside() {
        aboutClues("A clue counts if it is read and not set aside.");
        ColophonDetective x = Check.detectiveOf(ONE + "clue 1 city 1 1;");
        Check.due("unread", x.countingWeight(), 0);
        x.setAside(0);
        Check.due("unread and set aside", x.countingWeight(), 0);
        x.read(1);
        Check.due("read and set aside", x.countingWeight(), 0);
        x.takeBack(0);
        Check.due("read and not set aside", x.countingWeight(), 1);
    }

    // ---- candidates

    private static void aboutCandidates(String words) {
        Document.about("Candidates", words);
    }

    private static void firstAndLastYear() {
        aboutCandidates("A candidate is a printer and a year in which the printer is active.");
        ColophonDetective x = Check.detectiveOf("printer a 1 1500 1510;clue 1 city 1 1;");
        x.read(1);
        Check.due("the year before the first", x.score(0, 1499), -1);
        Check.due("the first year", x.score(0, 1500), 1);
        Check.due("the last year", x.score(0, 1510), 1);
        Check.due("the year after the last", x.score(0, 1511), -1);
        Check.due("as many as there are years", x.bestYears(0), 11);
    }

    private static void clueOfAPrinter() {
        aboutCandidates("A candidate explains a DEVICE clue if the printer has the device, a TYPEFACE clue if the "
                + "printer has the typeface");
        ColophonDetective x = Check.detectiveOf(TWO + "device a 0;device b 31;type a 0;type b 15;clue 1 device 0 1;"
                + "clue 1 device 31 1;clue 1 type 0 1;clue 1 type 15 1;clue 1 city 0 1;clue 1 city 1 1;clue 1 city 9 1;");
        boolean[] ofFirst = {true, false, true, false, true, false, false};
        boolean[] ofSecond = {false, true, false, true, false, true, false};
        for (int clue = 0; clue < ofFirst.length; clue++) {
            if (clue == 4) {
                aboutCandidates("a CITY clue if the city is that of the printer");
            }
            Check.due("a and clue " + clue, x.explains(0, 1500, clue), ofFirst[clue]);
            Check.due("b and clue " + clue, x.explains(1, 1510, clue), ofSecond[clue]);
        }
    }

    private static void clueOfAWatermark() {
        aboutCandidates("a WATERMARK clue if the year is not before the first year of the watermark and at most 3 years "
                + "after its last year");
        ColophonDetective x = Check.detectiveOf("printer a 1 1450 1999;mark 1500 1510;mark 1450 1450;mark 1999 1999;"
                + "mark 1996 1996;mark 1995 1995;clue 1 mark 0 1;clue 1 mark 1 1;clue 1 mark 2 1;clue 1 mark 3 1;"
                + "clue 1 mark 4 1;");
        int[][] spans = {{1500, 1513}, {1450, 1453}, {1999, 1999}, {1996, 1999}, {1995, 1998}};
        for (int clue = 0; clue < spans.length; clue++) {
            for (int year : spans[clue]) {
                Check.due("clue " + clue + " in " + year, x.explains(0, year, clue), true);
            }
            if (spans[clue][0] > 1450) {
                Check.due("clue " + clue + " a year before", x.explains(0, spans[clue][0] - 1, clue), false);
            }
            if (spans[clue][1] < 1999) {
                Check.due("clue " + clue + " a year too late", x.explains(0, spans[clue][1] + 1, clue), false);
            }
        }
    }

    private static void clueOfAYear() {
        aboutCandidates("a DATE clue if the year is the value");
        ColophonDetective x = Check.detectiveOf("printer a 1 1450 1999;clue 1 year 1450 1;clue 1 year 1999 1;");
        Check.due("1450 in 1450", x.explains(0, 1450, 0), true);
        Check.due("1450 in 1451", x.explains(0, 1451, 0), false);
        Check.due("1999 in 1999", x.explains(0, 1999, 1), true);
        Check.due("1999 in 1998", x.explains(0, 1998, 1), false);
    }

    private static void onlyCluesThatCount() {
        aboutCandidates("The score of a candidate is the sum of the weights of the clues that count and that it "
                + "explains.");
        ColophonDetective x = Check.detectiveOf("printer a 1 1500 1510;" + "clue 1 city 1 9;".repeat(40));
        for (int read = 0; read < 40; read++) {
            Check.due("after " + read, x.score(0, 1500), 9 * read);
            x.read(1);
        }
        Check.due("the greatest score", x.score(0, 1510), 360);
        Check.due("the greatest score is that of the verdict", x.verdictScore(), 360);
        for (int clue = 0; clue < 40; clue++) {
            x.setAside(clue);
        }
        Check.due("all are set aside", x.score(0, 1500), 0);
    }

    private static void earliestOfSeveral() {
        aboutCandidates("The best year of a printer is its year of activity with the greatest score, of several the "
                + "earliest.");
        ColophonDetective x = Check.detectiveOf("printer a 1 1500 1510;clue 9 year 1510 2;clue 8 year 1500 2;"
                + "clue 7 year 1499 9;clue 6 year 1511 9;clue 5 year 1510 1;");
        Check.due("all years are equal", x.bestYear(0), 1500);
        x.read(1);
        Check.due("the last year", x.bestYear(0), 1510);
        x.read(1);
        Check.due("the first and the last are equal", x.bestYear(0), 1500);
        x.read(2);
        Check.due("years without activity do not matter", x.bestYear(0), 1500);
        x.read(1);
        Check.due("the last year is ahead by 1", x.bestYear(0), 1510);
    }

    private static void equalScores() {
        aboutCandidates("The ranking of the printers is by descending scores of their best years, and printers with "
                + "equal scores come in the order of ascending numbers.");
        ColophonDetective x = Check.detectiveOf(Texts.printers(8) + "clue 9 city 7 1;clue 8 city 6 1;clue 7 city 6 1;");
        int[][] due = {{0, 1, 2, 3, 4, 5, 6, 7}, {7, 0, 1, 2, 3, 4, 5, 6}, {6, 7, 0, 1, 2, 3, 4, 5}};
        for (int read = 0; read < due.length; read++) {
            for (int rank = 0; rank < 8; rank++) {
                Check.due(read + " read, rank " + rank, x.printerByRank(rank), due[read][rank]);
            }
            x.read(1);
        }
    }

    private static void firstOfTheRanking() {
        aboutCandidates("The verdict is the first printer of the ranking with its best year.");
        ColophonDetective x = Check.detectiveOf("printer a 1 1500 1510;printer b 2 1600 1610;clue 9 city 2 1;"
                + "clue 8 city 1 1;clue 7 year 1610 1;");
        int[][] due = {{0, 1500, 0}, {1, 1600, 1}, {0, 1500, 1}, {1, 1610, 2}};
        for (int read = 0; read < due.length; read++) {
            Check.due("the printer after " + read, x.verdictPrinter(), due[read][0]);
            Check.due("the year after " + read, x.verdictYear(), due[read][1]);
            Check.due("the score after " + read, x.verdictScore(), due[read][2]);
            x.read(1);
        }
        ColophonDetective last = Check.detectiveOf(Texts.printers(8) + "clue 9 city 7 1;clue 8 year 1510 1;");
        last.read(40);
        Check.due("the last printer", last.verdictPrinter(), 7);
        Check.due("the year of the last printer", last.verdictYear(), 1510);
        Check.due("the score of the last printer", last.verdictScore(), 2);
    }

    private static void noCandidateExplainsBoth() {
        aboutCandidates("Two clues contradict each other if no candidate explains both, although they are different "
                + "clues.");
        ColophonDetective x = Check.detectiveOf("printer a 1 1500 1510;printer b 2 1510 1520;mark 1490 1497;"
                + "mark 1520 1530;mark 1521 1530;clue 1 city 1 1;clue 1 city 1 1;clue 1 city 2 1;clue 1 mark 0 1;"
                + "clue 1 mark 1 1;clue 1 mark 2 1;clue 1 year 1510 1;clue 1 city 9 1;clue 1 city 9 1;");
        String[] due = {"..x.xx.xx", "..x.xx.xx", "xx.x.x.xx", "..x.xxxxx", "xx.x.xxxx", "xxxxx.xxx", "...xxx.xx",
            "xxxxxxx.x", "xxxxxxxx."};
        for (int clue = 0; clue < 9; clue++) {
            for (int other = 0; other < 9; other++) {
                Check.due(clue + " and " + other, x.contradict(clue, other), due[clue].charAt(other) == 'x');
            }
        }
    }

    private static void contradictionsOfCluesThatDoNotCount() {
        aboutCandidates("(Whether they count does not matter.)");
        ColophonDetective x = Check.detectiveOf(TWO + "clue 9 city 0 1;clue 8 city 1 1;clue 7 city 0 1;clue 6 city 9 1;");
        for (int step = 0; step < 4; step++) {
            Check.due("clues of two cities", x.contradict(0, 1), true);
            Check.due("clues of one city", x.contradict(0, 2), false);
            Check.due("contradictions", x.contradictionsOf(0), 2);
            Check.due("impossible clues", x.impossibleClues(), 1);
            if (step == 2) {
                x.setAside(0);
                x.setAside(1);
                x.setAside(2);
                x.setAside(3);
            } else {
                x.read(2);
            }
        }
    }

    private static void editionsOneYearApart() {
        aboutCandidates("A candidate matches an edition if the printer is the same, and the years differ by at most 1.");
        for (int year = 1500; year <= 1510; year++) {
            ColophonDetective x = Check.detectiveOf("printer a 1 " + year + " 1600;printer b 2 1500 1600;edition a 1505;");
            Check.due("in " + year, x.matchingEdition(), year >= 1504 && year <= 1506 ? 0 : -1);
        }
        ColophonDetective other = Check.detectiveOf(TWO + "edition b 1500;");
        Check.due("another printer", other.matchingEdition(), -1);
        Check.due("a year in which the printer is not active",
                Check.detectiveOf("printer a 1 1500 1510;edition a 1499;").matchingEdition(), 0);
    }

    // ---- undo

    private static void aboutUndo(String words) {
        Document.about("Undo", words);
    }

    private interface Operation {
        void perform(ColophonDetective detective);
    }

    private static void eachOperationIsUndone() {
        aboutUndo("The methods in the section \"Operations\", and executeCommands, are operations");
        isUndone("addDeviceClue", x -> x.addDeviceClue(999, 7, 9));
        isUndone("addTypefaceClue", x -> x.addTypefaceClue(999, 1, 9));
        isUndone("addWatermarkClue", x -> x.addWatermarkClue(999, 1, 9));
        isUndone("addCityClue", x -> x.addCityClue(999, 1, 9));
        isUndone("addDateClue", x -> x.addDateClue(999, 1500, 9));
        isUndone("read", x -> x.read(40));
        isUndone("setAside", x -> x.setAside(0));
        isUndone("takeBack", x -> x.takeBack(1));
        isUndone("setAsideUnexplained", x -> x.setAsideUnexplained());
        isUndone("setWeight", x -> x.setWeight(0, 9));
        isUndone("transferDevice", x -> x.transferDevice(0, 1, 4));
        isUndone("executeCommands", x -> Check.run(x, "read 1;"));
    }

    private static void isUndone(String what, Operation operation) {
        ColophonDetective x = busy();
        x.addCityClue(999, 9, 9);
        x.read(1);
        String before = Check.stateOf(x);
        operation.perform(x);
        Check.due(what + " changes something", Check.stateOf(x).equals(before), false);
        Check.due(what + " is undone", x.undo(), 4);
        Check.due(what + " is undone", Check.stateOf(x), before);
    }

    private static void commandsAreOneOperation() {
        aboutUndo("a call of executeCommands is one operation, whatever its commands call.");
        ColophonDetective x = new ColophonDetective();
        String before = Check.stateOf(x);
        Check.due("thirty commands", Check.run(x, "weigh 0 9;aside 0;back 0;read 1;clue 1 city 1 1;".repeat(6)), 30);
        Check.due("they are undone at once", x.undo(), 0);
        Check.due("they are undone at once", Check.stateOf(x), before);
        Check.due("no command", Check.run(x, ""), 0);
        Check.due("no command that could be executed", Check.run(x, "back 0;aside 0;"), 0);
        Check.due("that is an operation, too", x.undo(), 1);
        Check.due("that is an operation, too", x.undo(), 0);
    }

    private static void eightOperations() {
        aboutUndo("The 8 most recent operations can be undone.");
        for (int operations = 1; operations <= 20; operations++) {
            ColophonDetective x = new ColophonDetective();
            for (int i = 0; i < operations; i++) {
                x.addCityClue(1, 1, 1);
            }
            int undone = Math.min(operations, 8);
            for (int left = undone - 1; left >= 0; left--) {
                Check.due("left of " + operations, x.undo(), left);
                Check.due("clues", x.clueCount(), 6 + operations - undone + left);
            }
            Check.noState("none is left of " + operations, () -> x.undo());
        }
    }

    private static void ringOfOperations() {
        aboutUndo("The 8 most recent operations can be undone.");
        ColophonDetective x = Check.detectiveOf(ONE + "clue 1 city 1 1;");
        for (int i = 1; i <= 400; i++) {
            x.setWeight(0, 1 + i % 9);
        }
        for (int left = 7; left >= 0; left--) {
            Check.due("left", x.undo(), left);
            Check.due("the weight", x.weightOf(0), 1 + (392 + left) % 9);
        }
        Check.noState("the ninth", () -> x.undo());
        Check.due("nothing changed", x.weightOf(0), 1 + 392 % 9);
        for (int i = 1; i <= 30; i++) {
            x.setWeight(0, 9);
            x.setWeight(0, 8);
            Check.due("one of two", x.undo(), 1);
            Check.due("the weight", x.weightOf(0), 9);
            Check.due("both", x.undo(), 0);
            Check.due("the weight", x.weightOf(0), 1 + 392 % 9);
        }
    }

    private static ColophonDetective busy() {
        ColophonDetective x = new ColophonDetective();
        x.read(3);
        x.setAside(1);
        x.formatVerdict();
        return x;
    }

    private static void refusal(String what, ColophonDetective x, Runnable call) {
        String before = Check.stateOf(x);
        try {
            call.run();
            Check.due(what, "nothing", "an exception");
        } catch (RuntimeException e) {
            Check.due(what, Check.stateOf(x), before);
        }
    }

    private static void refusedOperations() {
        aboutUndo("An operation that throws an exception changes nothing, unless its description says otherwise.");
        ColophonDetective x = busy();
        refusal("a device out of range", x, () -> x.addDeviceClue(1, 32, 1));
        refusal("a typeface out of range", x, () -> x.addTypefaceClue(1, 16, 1));
        refusal("a watermark that does not exist", x, () -> x.addWatermarkClue(1, 2, 1));
        refusal("a city out of range", x, () -> x.addCityClue(1, 10, 1));
        refusal("a year out of range", x, () -> x.addDateClue(1, 2000, 1));
        refusal("read 0", x, () -> x.read(0));
        refusal("read 41", x, () -> x.read(41));
        refusal("no clue to set aside", x, () -> x.setAside(6));
        refusal("set aside already", x, () -> x.setAside(1));
        refusal("no clue to take back", x, () -> x.takeBack(6));
        refusal("not set aside", x, () -> x.takeBack(0));
        refusal("no clue to weigh", x, () -> x.setWeight(6, 1));
        refusal("a weight out of range", x, () -> x.setWeight(0, 10));
        refusal("no printer", x, () -> x.transferDevice(0, 3, 4));
        refusal("the same printer", x, () -> x.transferDevice(0, 0, 4));
        refusal("a device that it does not have", x, () -> x.transferDevice(1, 2, 4));
        ColophonDetective full = Check.detectiveOf(ONE + "mark 1500 1501;" + "clue 1 city 1 1;".repeat(40));
        refusal("a device clue in a full book", full, () -> full.addDeviceClue(1, 1, 1));
        refusal("a typeface clue in a full book", full, () -> full.addTypefaceClue(1, 1, 1));
        refusal("a watermark clue in a full book", full, () -> full.addWatermarkClue(1, 0, 1));
        refusal("a city clue in a full book", full, () -> full.addCityClue(1, 1, 1));
        refusal("a date clue in a full book", full, () -> full.addDateClue(1, 1500, 1));
    }

    private static void refusedOperationsAreNotUndone() {
        aboutUndo("An operation that throws an exception changes nothing, unless its description says otherwise.");
        ColophonDetective x = new ColophonDetective();
        for (int operations = 0; operations <= 9; operations++) {
            Check.noIndex("no such clue", () -> x.setAside(6));
            Check.noArgument("no such number", () -> x.read(0));
            Check.noState("not set aside", () -> x.takeBack(0));
            if (operations < 9) {
                x.setWeight(0, 9 - operations);
            }
        }
        for (int left = 7; left >= 0; left--) {
            Check.due("left", x.undo(), left);
            Check.due("the weight", x.weightOf(0), 9 - left);
            Check.noState("device 5", () -> x.transferDevice(0, 1, 5));
        }
        Check.noState("the ninth", () -> x.undo());
    }

    private static void firstConditionFirst() {
        aboutUndo("If a method throws several exceptions, the condition of the exception that is listed first is checked "
                + "first.");
        ColophonDetective x = Check.detectiveOf(ONE + "mark 1500 1501;" + "clue 1 city 1 1;".repeat(40));
        Check.noIndex("isActive", () -> x.isActive(1, 1449));
        Check.noIndex("explains, the printer", () -> x.explains(1, 1449, 0));
        Check.noIndex("explains, the clue", () -> x.explains(0, 2000, 40));
        Check.noIndex("score", () -> x.score(1, 2000));
        Check.noArgument("addDeviceClue", () -> x.addDeviceClue(1, 32, 1));
        Check.noArgument("addTypefaceClue", () -> x.addTypefaceClue(1, 16, 1));
        Check.noArgument("addWatermarkClue", () -> x.addWatermarkClue(1, 1, 1));
        Check.noArgument("addCityClue", () -> x.addCityClue(1, 10, 1));
        Check.noArgument("addDateClue", () -> x.addDateClue(1, 2000, 1));
        Check.noIndex("setWeight", () -> x.setWeight(40, 0));
        Check.noIndex("transferDevice to the same, who does not exist", () -> x.transferDevice(1, 1, 0));
        Check.noIndex("transferDevice of a device that nobody has", () -> x.transferDevice(0, 1, 0));
        Check.noArgument("transferDevice to the same, without the device", () -> x.transferDevice(0, 0, 0));
    }

    private static void predictions() {
        aboutUndo("Predictions do not change anything.");
        ColophonDetective x = busy();
        Check.send(x, 0, "aldus");
        String before = Check.stateOf(x);
        for (int count = 0; count <= 40; count++) {
            x.printerAfter(count);
            x.yearAfter(count);
        }
        Check.due("printerAfter and yearAfter", Check.stateOf(x), before);
        Check.due("cluesUntilChange", x.cluesUntilChange(), 1);
        Check.due("cluesUntilChange", Check.stateOf(x), before);
        x.decisiveClue();
        Check.due("decisiveClue", Check.stateOf(x), before);
        x.rankingErrors();
        Check.due("rankingErrors", Check.stateOf(x), before);
        Check.due("the buffer", x.findPrinter(), 0);
        Check.due("the operations", x.undo(), 1);
        Check.due("the operations", x.undo(), 0);
    }
}
