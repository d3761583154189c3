/** The boundary cases of the promises 28 to 49: candidates, the ranking, the verdict and predictions. */
public final class VerdictEdgeTest {
    private static final String ONE = Texts.PRINTER;
    private static final String NO_YEAR = "Throws `IllegalArgumentException` if year is out of range";
    private static final String NO_COUNT = "Throws `IllegalArgumentException` if count is out of range";
    private static final int[] YEARS = Check.outside(1450, 1999);

    public static void main(String[] args) {
        explainsInactiveYears();
        explainsFirstAndLastYear();
        explainsWithoutPrinterOrClue();
        explainsWithoutYear();
        scoreOfInactiveYears();
        scoreOfFirstAndLastYear();
        scoreWithoutPrinterOrYear();
        bestsWithoutPrinter();
        atLeastOneBestYear();
        firstAndLastRank();
        noSuchRank();
        marginOfOnePrinter();
        marginOfTwoPrinters();
        noneAndAllUnexplained();
        noSuchUnexplainedClue();
        firstUnexplainedClue();
        smallestEdition();
        noEdition();
        sameClue();
        contradictWithoutClue();
        contradictionsWithoutClue();
        noneAndAllContradict();
        Document.wasTested(28, 43);
        predictedCounts();
        fewerClues();
        noSuchCount();
        smallestChange();
        neverAnotherPrinter();
        smallestDecisiveClue();
        noDecisiveClue();
        noRankingErrors();
        noClueCounts();
        shares();
        Document.wasTested(44, 49);
        Check.finish("VerdictEdgeTest");
    }

    // ---- candidates

    private static void explainsInactiveYears() {
        Document.about(28, "Returns whether it does; false if the printer is not active in the year.");
        ColophonDetective x = Check.detectiveOf("printer a 1 1500 1510;device a 1;type a 1;mark 1450 1999;"
                + "clue 1 device 1 1;clue 1 type 1 1;clue 1 mark 0 1;clue 1 city 1 1;clue 1 year 1499 1;"
                + "clue 1 year 1511 1;");
        for (int clue = 0; clue < 4; clue++) {
            Check.due(clue + " a year too early", x.explains(0, 1499, clue), false);
            Check.due(clue + " in the first year", x.explains(0, 1500, clue), true);
            Check.due(clue + " in the last year", x.explains(0, 1510, clue), true);
            Check.due(clue + " a year too late", x.explains(0, 1511, clue), false);
        }
        Check.due("the year of the clue is too early", x.explains(0, 1499, 4), false);
        Check.due("the year of the clue is too late", x.explains(0, 1511, 5), false);
        Check.due("an unread clue is explained", x.explains(0, 1505, 0), true);
        x.setAside(0);
        Check.due("a clue that is set aside is explained", x.explains(0, 1505, 0), true);
    }

    private static void explainsFirstAndLastYear() {
        Document.about(28, "a year, 1450 to 1999");
        ColophonDetective x = Check.detectiveOf("printer a 1 1450 1999;clue 1 city 1 1;clue 1 city 2 1;");
        Check.due("1450", x.explains(0, 1450, 0), true);
        Check.due("1999", x.explains(0, 1999, 0), true);
        Check.due("1450", x.explains(0, 1450, 1), false);
        Check.due("1999", x.explains(0, 1999, 1), false);
    }

    private static void explainsWithoutPrinterOrClue() {
        Document.about(28, "Throws `IndexOutOfBoundsException` if there is no such printer or clue");
        ColophonDetective x = Check.detectiveOf(Texts.printers(3) + "clue 1 city 1 1;".repeat(5));
        for (int wrong : Check.outside(0, 2)) {
            Check.noIndex("printer " + wrong, () -> x.explains(wrong, 1500, 0));
        }
        for (int wrong : Check.outside(0, 4)) {
            Check.noIndex("clue " + wrong, () -> x.explains(0, 1500, wrong));
            Check.noIndex("clue " + wrong + " in a year without activity", () -> x.explains(0, 1499, wrong));
        }
        for (int year : YEARS) {
            Check.noIndex("no printer in " + year, () -> x.explains(3, year, 0));
            Check.noIndex("no clue in " + year, () -> x.explains(0, year, 5));
        }
    }

    private static void explainsWithoutYear() {
        Document.about(28, NO_YEAR);
        ColophonDetective x = Check.detectiveOf("printer a 1 1450 1999;clue 1 city 1 1;");
        for (int year : YEARS) {
            Check.noArgument("in " + year, () -> x.explains(0, year, 0));
        }
    }

    private static void scoreOfInactiveYears() {
        Document.about(29, "Returns the score, or NONE if the printer is not active in the year.");
        ColophonDetective x = Check.detectiveOf("printer a 1 1500 1510;clue 1 city 1 1;clue 1 year 1499 1;clue 1 year 1511 1;");
        Check.due("active, but nothing counts", x.score(0, 1500), 0);
        Check.due("not active, and nothing counts", x.score(0, 1499), -1);
        x.read(40);
        Check.due("a year too early", x.score(0, 1499), -1);
        Check.due("the first year", x.score(0, 1500), 1);
        Check.due("the last year", x.score(0, 1510), 1);
        Check.due("a year too late", x.score(0, 1511), -1);
    }

    private static void scoreOfFirstAndLastYear() {
        Document.about(29, "a year, 1450 to 1999");
        ColophonDetective x = Check.detectiveOf("printer a 1 1450 1999;printer b 1 1500 1510;clue 1 year 1450 3;"
                + "clue 1 year 1999 4;");
        x.read(40);
        Check.due("1450", x.score(0, 1450), 3);
        Check.due("1999", x.score(0, 1999), 4);
        Check.due("not active in 1450", x.score(1, 1450), -1);
        Check.due("not active in 1999", x.score(1, 1999), -1);
    }

    private static void scoreWithoutPrinterOrYear() {
        Numbers.noPrinter(29, (x, printer) -> x.score(printer, 1500));
        Numbers.noPrinter(29, (x, printer) -> x.score(printer, printer >= 0 && printer < x.printerCount() ? 1500 : 1449));
        Document.about(29, NO_YEAR);
        ColophonDetective x = Check.detectiveOf("printer a 1 1450 1999;");
        for (int year : YEARS) {
            Check.noArgument("in " + year, () -> x.score(0, year));
        }
    }

    // ---- best years and the ranking

    private static void bestsWithoutPrinter() {
        Numbers.noPrinter(30, (x, printer) -> x.bestYear(printer));
        Numbers.noPrinter(31, (x, printer) -> x.bestScore(printer));
        Numbers.noPrinter(32, (x, printer) -> x.bestYears(printer));
    }

    private static void atLeastOneBestYear() {
        Document.about(32, "Returns the number of years, at least 1.");
        ColophonDetective x = Check.detectiveOf("printer a 1 1450 1450;printer b 1 1999 1999;printer c 1 1450 1999;"
                + "printer d 1 1500 1510;clue 9 year 1999 1;clue 8 year 1450 1;clue 7 year 1700 9;");
        int[][] due = {{1, 1, 550, 11}, {1, 1, 1, 11}, {1, 1, 2, 11}, {1, 1, 1, 11}};
        for (int read = 0; read < due.length; read++) {
            for (int printer = 0; printer < 4; printer++) {
                Check.due("years of " + printer + " after " + read, x.bestYears(printer), due[read][printer]);
            }
            x.read(1);
        }
    }

    private static void firstAndLastRank() {
        Document.about(33, "0 for the first printer");
        ColophonDetective x = Check.detectiveOf(Texts.printers(8) + "clue 9 city 7 1;");
        x.read(1);
        Check.due("the first", x.printerByRank(0), 7);
        Check.due("the second", x.printerByRank(1), 0);
        Check.due("the last", x.printerByRank(7), 6);
    }

    private static void noSuchRank() {
        Document.about(33, "Returns the number of the printer, or NONE if there is no such printer.");
        for (int count : new int[] {8, 3, 1}) {
            ColophonDetective x = new ColophonDetective();
            Check.send(x, 0, Texts.printers(count));
            x.load();
            for (int wrong : Check.outside(0, count - 1)) {
                Check.due("rank " + wrong + " of " + count, x.printerByRank(wrong), -1);
            }
            Check.due("the last of " + count, x.printerByRank(count - 1), count - 1);
        }
    }

    private static void marginOfOnePrinter() {
        Document.about(37, "or the score of the verdict if there is only one printer.");
        ColophonDetective x = Check.detectiveOf(Texts.printers(8) + "clue 1 city 0 9;");
        x.read(1);
        x.margin();
        Check.send(x, 0, Texts.printers(1) + "clue 2 city 0 4;clue 1 city 1 3;");
        x.load();
        Check.due("nothing counts", x.margin(), 0);
        x.read(1);
        Check.due("a clue that it explains", x.margin(), 4);
        x.read(1);
        Check.due("a clue that it does not explain", x.margin(), 4);
    }

    private static void marginOfTwoPrinters() {
        Document.about(37, "Returns the score of the verdict minus the score of the best year of the second printer of the "
                + "ranking");
        ColophonDetective x = Check.detectiveOf(Texts.printers(3) + "clue 9 city 2 4;clue 8 city 1 4;clue 7 city 0 5;"
                + "clue 6 city 2 9;");
        int[] due = {0, 4, 0, 1, 8};
        for (int read = 0; read < due.length; read++) {
            Check.due("after " + read, x.margin(), due[read]);
            x.read(1);
        }
    }

    // ---- what the verdict does not explain

    private static void noneAndAllUnexplained() {
        Document.about(38, "Counts the clues that count and that the verdict does not explain.");
        Check.due("no clues", Check.detectiveOf(ONE).unexplainedCount(), 0);
        ColophonDetective x = Check.detectiveOf(ONE + "clue 1 city 9 1;".repeat(40));
        Check.due("none is read", x.unexplainedCount(), 0);
        x.read(39);
        Check.due("thirty-nine", x.unexplainedCount(), 39);
        x.read(1);
        Check.due("all", x.unexplainedCount(), 40);
        x.setAside(0);
        Check.due("one is set aside", x.unexplainedCount(), 39);
        ColophonDetective known = Check.detectiveOf(ONE + "clue 1 city 1 1;".repeat(40));
        known.read(40);
        Check.due("all are explained", known.unexplainedCount(), 0);
    }

    private static ColophonDetective unexplained(int count) {
        return Check.detectiveOf(ONE + "clue 1 city 9 1;".repeat(count) + "clue 1 city 1 9;".repeat(40 - count));
    }

    private static void noSuchUnexplainedClue() {
        Document.about(39, "Returns the number of the clue, or NONE if there is no such clue.");
        for (int count : new int[] {0, 1, 20, 40}) {
            ColophonDetective x = unexplained(count);
            Check.due("none is read", x.unexplainedClue(0), -1);
            x.read(40);
            for (int wrong : Check.outside(0, count - 1)) {
                Check.due(wrong + " of " + count, x.unexplainedClue(wrong), -1);
            }
        }
    }

    private static void firstUnexplainedClue() {
        Document.about(39, "0 for the first one");
        for (int count : new int[] {1, 20, 40}) {
            ColophonDetective x = unexplained(count);
            x.read(40);
            for (int rank = 0; rank < count; rank++) {
                Check.due(rank + " of " + count, x.unexplainedClue(rank), rank);
            }
        }
        Document.about(39, "by its rank in the reading order among these clues.");
        ColophonDetective x = Check.detectiveOf(ONE + "clue 1 city 9 1;clue 3 city 1 1;clue 2 city 9 1;clue 3 city 9 1;");
        x.read(40);
        int[] due = {3, 2, 0, -1};
        for (int rank = 0; rank < due.length; rank++) {
            Check.due("rank " + rank, x.unexplainedClue(rank), due[rank]);
        }
    }

    private static void smallestEdition() {
        Document.about(40, "Returns the smallest number of such an edition, or NONE if there is none.");
        ColophonDetective x = Check.detectiveOf("printer a 1 1500 1510;edition a 1502;edition a 1501;edition a 1500;"
                + "edition a 1499;");
        Check.due("three match", x.matchingEdition(), 1);
        ColophonDetective y = Check.detectiveOf("printer a 1 1500 1510;" + "edition a 1498;".repeat(11) + "edition a 1499;");
        Check.due("only the last one matches", y.matchingEdition(), 11);
    }

    private static void noEdition() {
        Document.about(40, "or NONE if there is none.");
        Check.due("no editions", Check.detectiveOf(ONE).matchingEdition(), -1);
        ColophonDetective x = Check.detectiveOf(Texts.printers(2) + "edition a 1502;edition a 1498;edition b 1500;");
        Check.due("two years apart, or of another printer", x.matchingEdition(), -1);
        ColophonDetective y = new ColophonDetective();
        y.read(2);
        Check.due("of the verdict", y.matchingEdition(), 0);
        Check.send(y, 0, "printer aldus 1 1500 1510;");
        y.load();
        Check.due("editions of an earlier configuration do not match", y.matchingEdition(), -1);
    }

    // ---- contradictions

    private static void sameClue() {
        Document.about(41, "Returns whether they do; false for the same clue.");
        ColophonDetective x = Check.detectiveOf(ONE + "clue 1 city 1 1;clue 1 city 9 1;");
        Check.due("a clue that is explained", x.contradict(0, 0), false);
        Check.due("a clue that no candidate explains", x.contradict(1, 1), false);
        Check.due("one of each", x.contradict(0, 1), true);
        Check.due("one of each", x.contradict(1, 0), true);
    }

    private static void contradictWithoutClue() {
        Numbers.noClue(41, (x, clue) -> x.contradict(clue, clue));
        Numbers.noClue(41, (x, clue) -> x.contradict(clue, 0));
        Numbers.noClue(41, (x, clue) -> x.contradict(0, clue));
        Numbers.noClue(41, (x, clue) -> x.contradict(clue, x.clueCount() - 1));
        Numbers.noClue(41, (x, clue) -> x.contradict(x.clueCount() - 1, clue));
    }

    private static void contradictionsWithoutClue() {
        Numbers.noClue(42, (x, clue) -> x.contradictionsOf(clue));
    }

    private static void noneAndAllContradict() {
        Document.about(42, "Returns the number of clues.");
        ColophonDetective x = Check.detectiveOf(ONE + "clue 1 city 1 1;".repeat(39) + "clue 1 city 9 1;");
        Check.due("all others", x.contradictionsOf(39), 39);
        Check.due("one", x.contradictionsOf(0), 1);
        Check.due("no others", Check.detectiveOf(ONE + "clue 1 city 9 1;").contradictionsOf(0), 0);
        Document.about(43, "Counts the clues that no candidate explains.");
        Check.due("one", x.impossibleClues(), 1);
        Check.due("no clues", Check.detectiveOf(ONE).impossibleClues(), 0);
        Check.due("all clues", Check.detectiveOf(ONE + "clue 1 city 9 1;".repeat(40)).impossibleClues(), 40);
        ColophonDetective years = Check.detectiveOf("printer a 1 1500 1510;mark 1490 1496;mark 1490 1497;mark 1510 1520;"
                + "mark 1511 1520;clue 1 year 1499 1;clue 1 year 1500 1;clue 1 year 1510 1;clue 1 year 1511 1;"
                + "clue 1 mark 0 1;clue 1 mark 1 1;clue 1 mark 2 1;clue 1 mark 3 1;");
        Check.due("years before the first and after the last", years.impossibleClues(), 4);
    }

    // ---- predictions

    private static ColophonDetective forty() {
        return Check.detectiveOf(Texts.printers(2) + "clue 2 city 9 1;".repeat(39) + "clue 1 city 1 1;");
    }

    private static void predictedCounts() {
        Document.about(44, "how many clues are read, in the reading order, 0 to 40");
        ColophonDetective x = forty();
        Check.due("0", x.printerAfter(0), 0);
        Check.due("39", x.printerAfter(39), 0);
        Check.due("40", x.printerAfter(40), 1);
        x.read(40);
        Document.about(44, "Predicts the printer of the verdict if more clues were read.");
        Check.due("0 if all are read", x.printerAfter(0), 1);
        Document.about(45, "as for printerAfter");
        ColophonDetective y = Check.detectiveOf("printer a 1 1500 1510;" + "clue 2 city 9 1;".repeat(39)
                + "clue 1 year 1510 1;");
        Check.due("0", y.yearAfter(0), 1500);
        Check.due("39", y.yearAfter(39), 1500);
        Check.due("40", y.yearAfter(40), 1510);
        y.read(40);
        Document.about(45, "Predicts the year of the verdict if more clues were read.");
        Check.due("0 if all are read", y.yearAfter(0), 1510);
    }

    private static void fewerClues() {
        Document.about(44, "all unread clues if there are fewer");
        ColophonDetective x = Check.detectiveOf("printer a 1 1500 1510;printer b 2 1500 1510;clue 9 city 1 1;"
                + "clue 8 city 2 2;clue 7 year 1510 9;");
        int[] years = {1500, 1500, 1500, 1510, 1510, 1510};
        int[] printers = {0, 0, 1, 1, 1, 1};
        for (int read = 0; read <= 3; read++) {
            for (int count = 0; read + count < years.length; count++) {
                Check.due(count + " after " + read, x.printerAfter(count), printers[read + count]);
                Check.due("the year, " + count + " after " + read, x.yearAfter(count), years[read + count]);
            }
            Check.due("40 after " + read, x.printerAfter(40), 1);
            Check.due("the year, 40 after " + read, x.yearAfter(40), 1510);
            x.read(1);
        }
        Check.due("no clues", Check.detectiveOf(ONE).printerAfter(40), 0);
        Check.due("no clues", Check.detectiveOf(ONE).yearAfter(40), 1494);
    }

    private static void noSuchCount() {
        for (ColophonDetective x : new ColophonDetective[] {Check.detectiveOf(ONE), forty()}) {
            for (int wrong : Check.outside(0, 40)) {
                Document.about(44, NO_COUNT);
                Check.noArgument("" + wrong, () -> x.printerAfter(wrong));
                Document.about(45, NO_COUNT);
                Check.noArgument("" + wrong, () -> x.yearAfter(wrong));
            }
        }
    }

    private static void smallestChange() {
        Document.about(46, "Returns the smallest number of clues from 1 on after which it differs from the present one");
        ColophonDetective x = forty();
        for (int read = 0; read < 40; read++) {
            Check.due("after " + read, x.cluesUntilChange(), 40 - read);
            x.read(1);
        }
        ColophonDetective y = Check.detectiveOf(Texts.printers(2) + "clue 9 city 1 1;clue 8 city 0 1;clue 7 city 0 9;");
        Check.due("the first of two changes", y.cluesUntilChange(), 1);
        y.read(1);
        Check.due("back again", y.cluesUntilChange(), 1);
        ColophonDetective aside = Check.detectiveOf(Texts.printers(2) + "clue 9 city 1 1;clue 8 city 1 1;");
        aside.setAside(0);
        Check.due("a clue that is set aside is read, too", aside.cluesUntilChange(), 2);
        ColophonDetective year = Check.detectiveOf("printer a 1 1500 1510;printer b 2 1500 1510;clue 9 year 1505 1;"
                + "clue 8 city 2 1;");
        Check.due("another year is not another printer", year.cluesUntilChange(), 2);
    }

    private static void neverAnotherPrinter() {
        Document.about(46, "or NONE if it never does.");
        Check.due("no clues", Check.detectiveOf(Texts.printers(2)).cluesUntilChange(), -1);
        Check.due("one printer", Check.detectiveOf(ONE + "clue 1 city 9 9;").cluesUntilChange(), -1);
        ColophonDetective x = forty();
        x.read(40);
        Check.due("all clues are read", x.cluesUntilChange(), -1);
        ColophonDetective tie = Check.detectiveOf(Texts.printers(2) + "clue 9 city 0 1;clue 8 city 1 1;");
        tie.read(1);
        Check.due("a tie is no change", tie.cluesUntilChange(), -1);
        ColophonDetective aside = Check.detectiveOf(Texts.printers(2) + "clue 9 city 1 1;");
        aside.setAside(0);
        Check.due("the only clue is set aside", aside.cluesUntilChange(), -1);
    }

    private static void smallestDecisiveClue() {
        Document.about(47, "Returns the smallest number of a clue that counts, such that setting it aside would change the "
                + "printer of the verdict");
        ColophonDetective x = Check.detectiveOf(Texts.printers(2) + "clue 1 city 0 1;clue 1 city 1 1;clue 9 city 1 1;"
                + "clue 5 city 1 1;");
        x.read(1);
        Check.due("the only clue that counts", x.decisiveClue(), 2);
        x.read(1);
        Check.due("one of two would not do", x.decisiveClue(), -1);
        x.read(1);
        Check.due("a tie would do", x.decisiveClue(), 2);
        x.read(1);
        Check.due("3 against 1", x.decisiveClue(), -1);
        x.setAside(2);
        Check.due("the smallest number, not the first page", x.decisiveClue(), 1);
        Check.due("it is not set aside", x.isAside(1), false);
        ColophonDetective last = Check.detectiveOf(Texts.printers(2) + "clue 2 city 9 1;".repeat(39) + "clue 1 city 1 1;");
        last.read(40);
        Check.due("the last of forty", last.decisiveClue(), 39);
        ColophonDetective first = Check.detectiveOf(Texts.printers(2) + "clue 1 city 1 1;");
        first.read(1);
        Check.due("clue 0", first.decisiveClue(), 0);
    }

    private static void noDecisiveClue() {
        Document.about(47, "or NONE if there is none.");
        Check.due("no clues", Check.detectiveOf(Texts.printers(2)).decisiveClue(), -1);
        ColophonDetective x = Check.detectiveOf(Texts.printers(2) + "clue 1 city 1 1;");
        Check.due("an unread clue", x.decisiveClue(), -1);
        x.read(1);
        x.setAside(0);
        Check.due("a clue that is set aside", x.decisiveClue(), -1);
        ColophonDetective one = Check.detectiveOf(ONE + "clue 1 city 1 1;");
        one.read(1);
        Check.due("one printer", one.decisiveClue(), -1);
        ColophonDetective year = Check.detectiveOf("printer a 1 1500 1510;printer b 2 1500 1510;clue 1 year 1505 1;");
        year.read(1);
        Check.due("another year is not another printer", year.decisiveClue(), -1);
    }

    // ---- checks

    private static void noRankingErrors() {
        Document.about(48, "always 0.");
        Check.due("no clues", Check.detectiveOf(ONE).rankingErrors(), 0);
        Check.due("eight equal printers", Check.detectiveOf(Texts.printers(8)).rankingErrors(), 0);
        ColophonDetective x = Check.detectiveOf(Texts.printers(8) + "clue 9 city 7 9;clue 8 city 3 9;clue 7 city 9 9;"
                + "clue 6 year 1510 1;clue 5 city 3 1;");
        for (int read = 0; read <= 5; read++) {
            Check.due("after " + read, x.rankingErrors(), 0);
            x.read(1);
        }
        for (int clue = 0; clue < 5; clue++) {
            x.setAside(clue);
            Check.due("without " + clue, x.rankingErrors(), 0);
        }
    }

    private static void noClueCounts() {
        Document.about(49, "or 0.0 if no clue counts.");
        Check.due("no clues", Check.detectiveOf(ONE).confidence(), 0.0);
        ColophonDetective x = Check.detectiveOf(ONE + "clue 1 city 1 1;");
        Check.due("an unread clue", x.confidence(), 0.0);
        x.read(1);
        x.setAside(0);
        Check.due("a clue that is set aside", x.confidence(), 0.0);
        x.takeBack(0);
        Check.due("a clue that counts", x.confidence(), 1.0);
    }

    private static void shares() {
        Document.about(49, "Returns the score of the verdict, converted to double, divided by the weight that counts, "
                + "converted to double");
        ColophonDetective x = Check.detectiveOf(ONE + "clue 9 city 9 1;clue 8 city 1 2;clue 7 city 9 4;");
        double[] due = {0.0, 0.0, 2.0 / 3.0, 2.0 / 7.0};
        for (int read = 0; read < due.length; read++) {
            Check.due("after " + read, x.confidence(), due[read]);
            x.read(1);
        }
        ColophonDetective full = Check.detectiveOf(ONE + "clue 1 city 1 9;".repeat(39) + "clue 1 city 9 1;");
        full.read(40);
        Check.due("forty clues", full.confidence(), 351.0 / 352.0);
    }
}
