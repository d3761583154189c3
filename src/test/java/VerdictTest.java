/** Promises 28 to 49: candidates, the ranking, the verdict, contradictions and predictions. */
public final class VerdictTest {
    private static final String THREE = "printer a 1 1500 1510;printer b 2 1505 1520;printer c 1 1500 1510;";

    public static void main(String[] args) {
        promise28();
        promise29();
        promises30To32();
        edgeYears();
        promise33();
        promises34To37();
        freshAnswers();
        promises38And39();
        promise40();
        promises41And42();
        promise43();
        promises44And45();
        promise46();
        promise47();
        promises48And49();
        Check.finish("VerdictTest");
    }

    private static void promise28() {
        ColophonDetective x = Check.detectiveOf("printer a 1 1500 1560;printer b 2 1500 1560;device a 3;type a 4;"
                + "mark 1510 1520;clue 5 device 3 1;clue 5 type 4 1;clue 5 mark 0 1;clue 5 city 1 1;clue 5 year 1511 1;");
        for (int year = 1450; year <= 1999; year++) {
            boolean isActive = year >= 1500 && year <= 1560;
            Check.due("device in " + year, x.explains(0, year, 0), isActive);
            Check.due("type in " + year, x.explains(0, year, 1), isActive);
            Check.due("mark in " + year, x.explains(0, year, 2), year >= 1510 && year <= 1523);
            Check.due("city in " + year, x.explains(0, year, 3), isActive);
            Check.due("date in " + year, x.explains(0, year, 4), year == 1511);
            Check.due("device of b in " + year, x.explains(1, year, 0), false);
            Check.due("type of b in " + year, x.explains(1, year, 1), false);
            Check.due("mark for b in " + year, x.explains(1, year, 2), year >= 1510 && year <= 1523);
            Check.due("city of b in " + year, x.explains(1, year, 3), false);
            Check.due("date for b in " + year, x.explains(1, year, 4), year == 1511);
        }
        Check.noIndex("no printer", () -> x.explains(2, 1500, 0));
        Check.noIndex("no printer", () -> x.explains(-1, 1500, 0));
        Check.noIndex("no clue", () -> x.explains(0, 1500, 5));
        Check.noIndex("no clue", () -> x.explains(0, 1500, -1));
        Check.noIndex("the clue is checked before the year", () -> x.explains(0, 1449, 5));
        Check.noIndex("the printer is checked before the year", () -> x.explains(2, 2000, 0));
        Check.noArgument("1449", () -> x.explains(0, 1449, 0));
        Check.noArgument("2000", () -> x.explains(0, 2000, 0));
        ColophonDetective late = Check.detectiveOf("printer a 1 1999 1999;mark 1998 1998;mark 1999 1999;mark 1995 1995;"
                + "clue 1 mark 0 1;clue 1 mark 1 2;clue 1 mark 2 4;");
        late.read(40);
        Check.due("watermarks that reach past 1999", late.verdictScore(), 3);
        Check.due("numbers of devices and typefaces are no bits of one another", numbersApart(), 0);
    }

    private static int numbersApart() {
        ColophonDetective x = Check.detectiveOf("printer a 1 1500 1500;device a 31;clue 1 device 0 1;clue 1 type 15 1;"
                + "clue 1 device 31 1;");
        return (x.explains(0, 1500, 0) ? 1 : 0) + (x.explains(0, 1500, 1) ? 1 : 0) + (x.explains(0, 1500, 2) ? 0 : 1);
    }

    private static void promise29() {
        ColophonDetective x = new ColophonDetective();
        Check.due("nothing counts", x.score(0, 1504), 0);
        x.read(3);
        Check.due("read", x.score(0, 1504), 10);
        Check.due("read", x.score(0, 1505), 8);
        Check.due("read", x.score(0, 1510), 5);
        x.setAside(0);
        Check.due("set aside", x.score(0, 1504), 5);
        x.setWeight(1, 9);
        Check.due("weighed", x.score(0, 1504), 11);
        Check.due("not active", x.score(0, 1493), -1);
        Check.due("not active", x.score(0, 1516), -1);
        Check.due("the first year", x.score(0, 1494), 0);
        Check.due("the last year", x.score(0, 1515), 0);
        Check.noIndex("no printer", () -> x.score(3, 1500));
        Check.noIndex("the printer is checked first", () -> x.score(-1, 1449));
        Check.noArgument("1449", () -> x.score(0, 1449));
        Check.noArgument("2000", () -> x.score(0, 2000));
    }

    private static void promises30To32() {
        ColophonDetective x = new ColophonDetective();
        int[][] due = {{1494, 0, 22}, {1502, 0, 58}, {1555, 0, 35}};
        bests(x, due);
        x.read(2);
        bests(x, new int[][] {{1500, 8, 10}, {1502, 3, 8}, {1555, 5, 35}});
        x.read(1);
        bests(x, new int[][] {{1504, 10, 1}, {1504, 5, 1}, {1555, 5, 35}});
        x.read(40);
        bests(x, new int[][] {{1504, 10, 1}, {1556, 7, 4}, {1556, 22, 8}});
        x.setAside(5);
        bests(x, new int[][] {{1504, 10, 1}, {1504, 5, 1}, {1555, 15, 35}});
        for (int wrong : new int[] {-1, 3, 8, Integer.MIN_VALUE, Integer.MAX_VALUE}) {
            Check.noIndex("bestYear " + wrong, () -> x.bestYear(wrong));
            Check.noIndex("bestScore " + wrong, () -> x.bestScore(wrong));
            Check.noIndex("bestYears " + wrong, () -> x.bestYears(wrong));
        }
        ColophonDetective y = Check.detectiveOf("printer a 1 1450 1999;mark 1460 1470;mark 1480 1490;mark 1999 1999;"
                + "clue 3 mark 0 2;clue 3 mark 1 2;clue 3 mark 2 2;");
        y.read(3);
        bests(y, new int[][] {{1460, 2, 29}});
        y.addDateClue(3, 1493, 1);
        y.addDateClue(3, 1999, 1);
        y.read(2);
        bests(y, new int[][] {{1493, 3, 2}});
    }

    private static void bests(ColophonDetective x, int[][] due) {
        for (int printer = 0; printer < due.length; printer++) {
            Check.due("best year of " + printer, x.bestYear(printer), due[printer][0]);
            Check.due("best score of " + printer, x.bestScore(printer), due[printer][1]);
            Check.due("best years of " + printer, x.bestYears(printer), due[printer][2]);
        }
    }

    private static void edgeYears() {
        ColophonDetective x = Check.detectiveOf("printer a 1 1450 1999;");
        for (int year : new int[] {1450, 1451, 1452, 1998, 1999}) {
            x.addDateClue(5, year, 4);
            x.read(1);
            bests(x, new int[][] {{year, 4, 1}});
            x.undo();
            x.undo();
        }
        ColophonDetective y = Check.detectiveOf("printer a 1 1451 1999;mark 1450 1450;mark 1998 1999;clue 9 mark 0 4;"
                + "clue 8 mark 1 4;");
        y.read(1);
        bests(y, new int[][] {{1451, 4, 3}});
        y.setAside(0);
        y.read(1);
        bests(y, new int[][] {{1998, 4, 2}});
    }

    private static void ranking(String what, ColophonDetective x, int... due) {
        for (int rank = 0; rank < due.length; rank++) {
            Check.due(what + " rank " + rank, x.printerByRank(rank), due[rank]);
        }
        for (int wrong : new int[] {-1, due.length, 8, Integer.MIN_VALUE, Integer.MAX_VALUE}) {
            Check.due(what + " rank " + wrong, x.printerByRank(wrong), -1);
        }
        Check.due(what + " first", x.verdictPrinter(), due[0]);
    }

    private static void promise33() {
        ColophonDetective x = Check.detectiveOf(THREE + "clue 9 city 2 3;clue 8 city 1 3;clue 7 city 1 1;");
        ranking("nothing counts:", x, 0, 1, 2);
        x.read(1);
        ranking("city 2:", x, 1, 0, 2);
        x.read(1);
        ranking("a tie:", x, 0, 1, 2);
        x.read(1);
        ranking("city 1:", x, 0, 2, 1);
        ColophonDetective all = Check.detectiveOf("printer a 1 1500 1500;printer b 2 1500 1500;printer c 3 1500 1500;"
                + "printer d 4 1500 1500;printer e 5 1500 1500;printer f 6 1500 1500;printer g 7 1500 1500;"
                + "printer h 8 1500 1500;clue 1 city 1 1;clue 1 city 2 8;clue 1 city 3 3;clue 1 city 4 8;"
                + "clue 1 city 5 9;clue 1 city 6 1;clue 1 city 8 3;");
        all.read(40);
        ranking("eight printers:", all, 4, 1, 3, 2, 7, 0, 5, 6);
    }

    private static void verdict(String what, ColophonDetective x, int printer, int year, int score, int margin) {
        Check.due(what + " printer", x.verdictPrinter(), printer);
        Check.due(what + " year", x.verdictYear(), year);
        Check.due(what + " score", x.verdictScore(), score);
        Check.due(what + " margin", x.margin(), margin);
    }

    private static void promises34To37() {
        ColophonDetective x = new ColophonDetective();
        verdict("0 read:", x, 0, 1494, 0, 0);
        x.read(1);
        verdict("1 read:", x, 0, 1494, 5, 0);
        x.read(1);
        verdict("2 read:", x, 0, 1500, 8, 3);
        x.read(1);
        verdict("3 read:", x, 0, 1504, 10, 5);
        x.read(1);
        verdict("4 read:", x, 0, 1504, 10, 1);
        x.read(1);
        verdict("5 read:", x, 2, 1555, 15, 5);
        x.read(1);
        verdict("6 read:", x, 2, 1556, 22, 12);
        ColophonDetective one = Check.detectiveOf("printer a 1 1600 1700;clue 1 city 1 4;clue 1 city 2 3;");
        verdict("one printer:", one, 0, 1600, 0, 0);
        one.read(2);
        verdict("one printer:", one, 0, 1600, 4, 4);
    }

    private interface Question {
        long ask(ColophonDetective detective);
    }

    // Each question is the first one after a change, and the last printer is the one of the verdict.
    private static void freshAnswers() {
        freshAnswer("verdictPrinter", 7, x -> x.verdictPrinter());
        freshAnswer("verdictYear", 1605, x -> x.verdictYear());
        freshAnswer("verdictScore", 9, x -> x.verdictScore());
        freshAnswer("margin", 5, x -> x.margin());
        freshAnswer("unexplainedCount", 1, x -> x.unexplainedCount());
        freshAnswer("unexplainedClue", 2, x -> x.unexplainedClue(0));
        freshAnswer("matchingEdition", 0, x -> x.matchingEdition());
        freshAnswer("printerByRank", 7, x -> x.printerByRank(0));
        freshAnswer("bestYear", 1605, x -> x.bestYear(7));
        freshAnswer("bestScore", 9, x -> x.bestScore(7));
        freshAnswer("bestYears", 1, x -> x.bestYears(7));
        freshAnswer("printerAfter", 7, x -> x.printerAfter(3));
        freshAnswer("yearAfter", 1605, x -> x.yearAfter(3));
        freshAnswer("cluesUntilChange", -1, x -> x.cluesUntilChange());
        freshAnswer("decisiveClue", 0, x -> x.decisiveClue());
        freshAnswer("rankingErrors", 0, x -> x.rankingErrors());
        freshAnswer("confidence", 9, x -> (long) (x.confidence() * 13.0 + 0.5));
        freshAnswer("formatVerdict", 12, x -> x.formatVerdict());
        freshAnswer("setAsideUnexplained", 1, x -> x.setAsideUnexplained());
        freshAnswer("setAside", 7, x -> x.setAside(1));
    }

    private static void freshAnswer(String what, long due, Question question) {
        ColophonDetective x = new ColophonDetective();
        x.read(6);
        x.verdictPrinter();
        Check.send(x, 0, "printer a 1 1500 1500;printer b 1 1500 1500;printer c 1 1500 1500;printer d 1 1500 1500;"
                + "printer e 1 1500 1500;printer f 1 1500 1500;printer g 1 1500 1500;printer h 2 1600 1610;"
                + "edition h 1606;clue 9 city 2 7;clue 8 year 1605 2;clue 7 city 1 4;");
        x.load();
        x.read(3);
        Check.due(what, question.ask(x), due);
    }

    private static void unexplained(ColophonDetective x, int... due) {
        Check.due("unexplained clues", x.unexplainedCount(), due.length);
        for (int rank = 0; rank < due.length; rank++) {
            Check.due("unexplained clue " + rank, x.unexplainedClue(rank), due[rank]);
        }
        for (int wrong : new int[] {-1, due.length, 40, Integer.MIN_VALUE, Integer.MAX_VALUE}) {
            Check.due("unexplained clue " + wrong, x.unexplainedClue(wrong), -1);
        }
    }

    private static void promises38And39() {
        ColophonDetective x = new ColophonDetective();
        unexplained(x);
        x.read(5);
        unexplained(x, 1, 2);
        x.setAside(1);
        unexplained(x, 2);
        x.takeBack(1);
        x.addDeviceClue(999, 9, 1);
        unexplained(x, 1, 2);
        x.read(1);
        unexplained(x, 6, 1, 2);
        ColophonDetective y = Check.detectiveOf("printer a 1 1500 1500;clue 1 city 2 1;clue 3 city 2 1;clue 2 city 1 9;"
                + "clue 3 city 3 9;clue 9 year 1501 1;");
        y.read(40);
        unexplained(y, 4, 1, 3, 0);
    }

    private static void promise40() {
        ColophonDetective x = Check.detectiveOf("printer a 1 1500 1600;printer b 2 1500 1600;edition b 1550;"
                + "edition a 1552;edition a 1550;edition a 1549;clue 9 city 1 1;");
        Check.due("1500", x.matchingEdition(), -1);
        int[] due = {-1, 3, 2, 2, 1, 1, 1, -1};
        for (int i = 0; i < due.length; i++) {
            Check.run(x, "clue 999 year " + (1547 + i) + " 9;clue 999 city 1 1;read 40;");
            Check.due("in " + (1547 + i), x.matchingEdition(), due[i]);
            x.undo();
        }
        Check.run(x, "clue 999 year 1551 9;clue 999 city 2 9;read 40;");
        Check.due("of b in 1551", x.matchingEdition(), 0);
        x.undo();
        Check.due("no edition", Check.detectiveOf(THREE).matchingEdition(), -1);
    }

    private static void promises41And42() {
        ColophonDetective x = new ColophonDetective();
        boolean[][] due = {
            {false, false, false, false, false, false},
            {false, false, false, true, true, true},
            {false, false, false, true, true, true},
            {false, true, true, false, false, false},
            {false, true, true, false, false, false},
            {false, true, true, false, false, false}};
        for (int round = 0; round < 3; round++) {
            for (int clue = 0; clue < 6; clue++) {
                int count = 0;
                for (int other = 0; other < 6; other++) {
                    Check.due(clue + " against " + other, x.contradict(clue, other), due[clue][other]);
                    count += due[clue][other] ? 1 : 0;
                }
                Check.due("against " + clue, x.contradictionsOf(clue), count);
            }
            x.read(3);
        }
        for (int wrong : new int[] {-1, 6, 40, Integer.MIN_VALUE, Integer.MAX_VALUE}) {
            Check.noIndex(wrong + " against 0", () -> x.contradict(wrong, 0));
            Check.noIndex("0 against " + wrong, () -> x.contradict(0, wrong));
            Check.noIndex("against itself " + wrong, () -> x.contradict(wrong, wrong));
            Check.noIndex("against " + wrong, () -> x.contradictionsOf(wrong));
        }
        x.addCityClue(1, 9, 1);
        Check.due("an impossible clue and itself", x.contradict(6, 6), false);
        Check.due("an impossible clue and another", x.contradict(6, 0), true);
        Check.due("an impossible clue and the others", x.contradictionsOf(6), 6);
        ColophonDetective y = Check.detectiveOf("printer a 1 1500 1520;mark 1505 1507;mark 1510 1511;mark 1511 1512;"
                + "clue 1 mark 0 1;clue 1 mark 1 1;clue 1 mark 2 1;clue 1 year 1510 1;clue 1 year 1511 1;");
        Check.due("spans that touch", y.contradict(0, 1), false);
        Check.due("spans that do not", y.contradict(0, 2), true);
        Check.due("a year in a span", y.contradict(3, 0), false);
        Check.due("a year behind a span", y.contradict(4, 0), true);
        Check.due("two years", y.contradict(3, 4), true);
    }

    private static void promise43() {
        ColophonDetective x = new ColophonDetective();
        Check.due("none", x.impossibleClues(), 0);
        x.addCityClue(1, 9, 1);
        x.addDeviceClue(1, 9, 1);
        x.addTypefaceClue(1, 9, 1);
        x.addDateClue(1, 1493, 1);
        x.addDateClue(1, 1590, 1);
        Check.due("five", x.impossibleClues(), 5);
        x.addDateClue(1, 1494, 1);
        x.addDateClue(1, 1589, 1);
        x.addDeviceClue(1, 7, 1);
        Check.due("still five", x.impossibleClues(), 5);
        ColophonDetective y = Check.detectiveOf("printer a 1 1500 1510;printer b 1 1520 1530;mark 1490 1496;"
                + "mark 1490 1497;mark 1511 1516;mark 1511 1517;mark 1531 1540;clue 1 mark 0 1;clue 1 mark 1 1;"
                + "clue 1 mark 2 1;clue 1 mark 3 1;clue 1 mark 4 1;clue 1 year 1515 1;");
        Check.due("years without a printer", y.impossibleClues(), 4);
    }

    private static void promises44And45() {
        ColophonDetective x = new ColophonDetective();
        int[] printers = {0, 0, 0, 0, 0, 2, 2, 2};
        int[] years = {1494, 1494, 1500, 1504, 1504, 1555, 1556, 1556};
        for (int read = 0; read < 6; read++) {
            for (int count = 0; read + count < printers.length; count++) {
                Check.due(count + " after " + read, x.printerAfter(count), printers[read + count]);
                Check.due(count + " after " + read, x.yearAfter(count), years[read + count]);
            }
            Check.due("40 after " + read, x.printerAfter(40), 2);
            Check.due("40 after " + read, x.yearAfter(40), 1556);
            Check.due("nothing changes", x.isRead(read), false);
            x.read(1);
        }
        for (int wrong : new int[] {-1, 41, Integer.MIN_VALUE, Integer.MAX_VALUE}) {
            Check.noArgument("printerAfter " + wrong, () -> x.printerAfter(wrong));
            Check.noArgument("yearAfter " + wrong, () -> x.yearAfter(wrong));
        }
        ColophonDetective y = new ColophonDetective();
        y.setAside(1);
        Check.due("a clue set aside is read, but does not count", y.yearAfter(2), 1494);
        Check.due("and takes one of the count", y.yearAfter(3), 1504);
        y.read(1);
        y.addDateClue(999, 1496, 9);
        Check.due("a new clue comes first", y.yearAfter(1), 1496);
    }

    private static void promise46() {
        ColophonDetective x = new ColophonDetective();
        int[] due = {5, 4, 3, 2, 1, -1, -1};
        for (int read = 0; read < due.length; read++) {
            Check.due("after " + read, x.cluesUntilChange(), due[read]);
            x.read(1);
        }
        ColophonDetective y = Check.detectiveOf(THREE + "clue 9 city 2 1;clue 8 city 1 2;clue 7 city 2 9;");
        Check.due("the first change counts", y.cluesUntilChange(), 1);
        y.read(1);
        Check.due("from b to a", y.cluesUntilChange(), 1);
        y.setAside(1);
        Check.due("a clue set aside changes nothing", y.cluesUntilChange(), -1);
        Check.due("no clues", Check.detectiveOf(THREE).cluesUntilChange(), -1);
        ColophonDetective z = Check.detectiveOf(THREE + "clue 9 city 1 1;".repeat(39) + "clue 1 device 1 1;");
        Check.due("never", z.cluesUntilChange(), -1);
        ColophonDetective last = Check.detectiveOf(THREE + "clue 9 city 9 1;".repeat(39) + "clue 1 city 2 1;");
        Check.due("the 40th", last.cluesUntilChange(), 40);
    }

    private static void promise47() {
        ColophonDetective x = Check.detectiveOf(THREE + "clue 9 city 2 1;clue 8 city 2 2;clue 7 city 1 2;clue 1 city 2 9;");
        Check.due("nothing counts", x.decisiveClue(), -1);
        x.read(3);
        Check.due("the verdict is b", x.verdictPrinter(), 1);
        Check.due("a tie would do", x.decisiveClue(), 0);
        x.setWeight(0, 2);
        Check.due("two of equal weight", x.decisiveClue(), 0);
        x.setAside(0);
        Check.due("the verdict is a", x.verdictPrinter(), 0);
        Check.due("clue 1 cannot be the one, clue 0 is aside", x.decisiveClue(), 2);
        x.takeBack(0);
        x.read(1);
        Check.due("only the last one matters", x.decisiveClue(), -1);
        x.setAside(0);
        x.setAside(1);
        Check.due("now it does", x.decisiveClue(), 3);
        Check.due("it changes nothing", x.isAside(3), false);
        ColophonDetective y = Check.detectiveOf("printer a 1 1500 1500;clue 1 city 1 1;");
        y.read(1);
        Check.due("one printer", y.decisiveClue(), -1);
    }

    private static void promises48And49() {
        ColophonDetective x = new ColophonDetective();
        Check.due("no clue counts", x.confidence(), 0.0);
        double[] due = {1.0, 1.0, 1.0, 10.0 / 14.0, 15.0 / 20.0, 22.0 / 27.0};
        for (double share : due) {
            x.read(1);
            Check.due("confidence", x.confidence(), share);
            Check.due("ranking errors", x.rankingErrors(), 0);
        }
        for (int clue = 0; clue < 6; clue++) {
            x.setAside(clue);
            Check.due("ranking errors", x.rankingErrors(), 0);
        }
        Check.due("all are aside", x.confidence(), 0.0);
        ColophonDetective y = Check.detectiveOf("printer a 1 1500 1500;clue 1 city 2 1;");
        Check.due("nothing is explained", y.confidence(), 0.0);
        y.read(1);
        Check.due("nothing is explained", y.confidence(), 0.0);
        Check.due("ranking errors", y.rankingErrors(), 0);
        y.addCityClue(1, 1, 1);
        y.setAside(0);
        y.read(1);
        Check.due("a single weight of 1 counts", y.confidence(), 1.0);
        y.takeBack(0);
        Check.due("the half of it", y.confidence(), 0.5);
    }
}
