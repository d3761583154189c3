/** Texts that the tests share, and what a text that is parsed has to bring about. */
final class Texts {
    static final String PRINTER = "printer a 1 1494 1515;";
    static final int SYNTAX = ColophonDetective.SYNTAX_ERROR;
    static final int RANGE = ColophonDetective.RANGE_ERROR;
    static final int NAME = ColophonDetective.NAME_ERROR;
    static final int LIMIT = ColophonDetective.LIMIT_ERROR;

    private Texts() {
    }

    /** Printers a, b and so on in the cities 0, 1 and so on, who are active in the years from 1500 to 1510. */
    static String printers(int count) {
        StringBuilder text = new StringBuilder();
        for (int printer = 0; printer < count; printer++) {
            text.append("printer ").append((char) ('a' + printer)).append(' ').append(printer).append(" 1500 1510;");
        }
        return text.toString();
    }

    private interface Parser {
        int parse(ColophonDetective detective);
    }

    static void sound(String text, int clues) {
        parsed(text, clues, x -> x.load());
    }

    /** All commands of a text are executed by a new detective. */
    static void soundCommands(String text, int commands) {
        parsed(text, commands, x -> x.executeCommands());
    }

    private static void parsed(String text, int due, Parser parser) {
        ColophonDetective x = new ColophonDetective();
        Check.send(x, 0, text);
        try {
            Check.due("answer to " + text, parser.parse(x), due);
        } catch (IllegalArgumentException e) {
            Check.due("answer to " + text, "an error at " + x.errorPosition(), "no error");
        }
        Check.due("code of " + text, x.errorCode(), 0);
        Check.due("position in " + text, x.errorPosition(), -1);
        Check.noArgument("the buffer is empty after " + text, () -> x.truncate(1));
    }

    static void faulty(String text, int code, int position) {
        ColophonDetective x = new ColophonDetective();
        Check.send(x, 0, text);
        Check.noArgument("load " + text, () -> x.load());
        Check.due("code of " + text, x.errorCode(), code);
        Check.due("position in " + text, x.errorPosition(), position);
        Check.noArgument("the buffer is empty after " + text, () -> x.truncate(1));
        Check.due("printers after " + text, x.printerCount(), 3);
        Check.due("clues after " + text, x.clueCount(), 6);
    }

    /** The position is that of the bar in the text, which is not sent. */
    static void faultyAt(String barred, int code) {
        int bar = barred.indexOf('|');
        faulty(barred.substring(0, bar) + barred.substring(bar + 1), code, bar);
    }

    /** As faultyAt, for a command text. */
    static void faultyCommands(String barred, int code) {
        int bar = barred.indexOf('|');
        String text = barred.substring(0, bar) + barred.substring(bar + 1);
        ColophonDetective x = new ColophonDetective();
        x.read(1);
        Check.send(x, 0, text);
        Check.noArgument(text, () -> x.executeCommands());
        Check.due("code of " + text, x.errorCode(), code);
        Check.due("position in " + text, x.errorPosition(), bar);
        Check.noArgument("the buffer is empty after " + text, () -> x.truncate(1));
        Check.due("no command was executed of " + text, x.isRead(1), false);
        Check.due("no operation: " + text, x.undo(), 0);
    }
}
