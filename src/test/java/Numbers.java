/** Printers and clues that do not exist, for each method that is asked about one. */
final class Numbers {
    interface Question {
        void ask(ColophonDetective detective, int number);
    }

    private Numbers() {
    }

    /** With 1, 3 and 8 printers. A printer of an earlier configuration is none, either. */
    static void noPrinter(int promise, Question question) {
        Document.about(promise, "Throws `IndexOutOfBoundsException` if there is no such printer");
        for (int count : new int[] {8, 3, 1}) {
            ColophonDetective x = Check.detectiveOf(Texts.printers(8));
            Check.send(x, 0, Texts.printers(count));
            x.load();
            refused(x, count, question);
        }
    }

    /** With no clue, 1, 39 and 40 clues. A clue whose addition was undone is none, either. */
    static void noClue(int promise, Question question) {
        Document.about(promise, "Throws `IndexOutOfBoundsException` if there is no such clue");
        for (int count : new int[] {0, 1, 39, 40}) {
            ColophonDetective x = Check.detectiveOf(Texts.PRINTER + "clue 1 city 1 1;".repeat(count));
            if (count < 40) {
                x.addCityClue(1, 1, 1);
                x.undo();
            }
            refused(x, count, question);
        }
    }

    private static void refused(ColophonDetective x, int count, Question question) {
        for (int wrong : Check.outside(0, count - 1)) {
            Check.noIndex(wrong + " of " + count, () -> question.ask(x, wrong));
        }
        if (count > 0) {
            Check.due("0 of " + count, exists(x, 0, question), true);
            Check.due((count - 1) + " of " + count, exists(x, count - 1, question), true);
        }
    }

    // What is there may be refused for another reason.
    private static boolean exists(ColophonDetective x, int number, Question question) {
        try {
            question.ask(x, number);
        } catch (IndexOutOfBoundsException e) {
            return false;
        } catch (IllegalStateException e) {
            return true;
        }
        return true;
    }
}
