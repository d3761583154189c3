import java.nio.charset.StandardCharsets;

/** What the tests share: comparing answers, and filling the input buffer with a text. */
final class Check {
    interface Call {
        long answer();
    }

    private static int wrong = 0;
    private static int compared = 0;
    private static String topic = "";

    private Check() {
    }

    /** What the failures that follow are told with. */
    static void topic(String words) {
        topic = words;
    }

    private static void tell(String what, Object got, Object want) {
        wrong++;
        System.out.println(topic + what + ": answered " + got + ", due is " + want);
    }

    static void due(String what, long got, long want) {
        compared++;
        if (got != want) {
            tell(what, got, want);
        }
    }

    static void due(String what, boolean got, boolean want) {
        due(what, got ? 1 : 0, want ? 1 : 0);
    }

    static void due(String what, double got, double want) {
        compared++;
        if (got != want) {
            tell(what, got, want);
        }
    }

    static void due(String what, String got, String want) {
        compared++;
        if (!got.equals(want)) {
            tell(what, "\"" + got + "\"", "\"" + want + "\"");
        }
    }

    /** The class itself is compared, so that a subclass thrown by the machine is told apart. */
    static void throwing(String what, Class<? extends Exception> want, Runnable call) {
        String thrown = "nothing";
        try {
            call.run();
        } catch (RuntimeException e) {
            thrown = e.getClass().getSimpleName();
        }
        due(what + " throws", thrown, want.getSimpleName());
    }

    static void noIndex(String what, Runnable call) {
        throwing(what, IndexOutOfBoundsException.class, call);
    }

    static void noArgument(String what, Runnable call) {
        throwing(what, IllegalArgumentException.class, call);
    }

    static void noState(String what, Runnable call) {
        throwing(what, IllegalStateException.class, call);
    }

    /** Numbers outside a range: just so, far off, and such as would be inside it if bits were lost. */
    static int[] outside(int low, int high) {
        return new int[] {low - 1, high + 1, low + 65536, high + 65536, low + Integer.MIN_VALUE, -1 - high,
            Integer.MIN_VALUE, Integer.MAX_VALUE};
    }

    /** Appends a text of Latin 1 to the input buffer, whose length is given. */
    static int send(ColophonDetective detective, int length, String text) {
        byte[] bytes = text.getBytes(StandardCharsets.ISO_8859_1);
        for (int at = 0; at < bytes.length; at += 20) {
            detective.append(word(bytes, at), word(bytes, at + 4), word(bytes, at + 8),
                    word(bytes, at + 12), word(bytes, at + 16));
        }
        return detective.truncate(length + bytes.length);
    }

    private static int word(byte[] bytes, int at) {
        int word = 0;
        for (int i = at; i < at + 4; i++) {
            word = word << 8 | (i < bytes.length ? bytes[i] & 255 : ' ');
        }
        return word;
    }

    /** A new detective with a configuration of its own. */
    static ColophonDetective detectiveOf(String configuration) {
        ColophonDetective detective = new ColophonDetective();
        send(detective, 0, configuration);
        detective.load();
        return detective;
    }

    static int run(ColophonDetective detective, String commands) {
        send(detective, 0, commands);
        return detective.executeCommands();
    }

    /** All that operations and predictions could change, but for the buffer and what can be undone. */
    static String stateOf(ColophonDetective x) {
        StringBuilder state = new StringBuilder();
        for (int printer = 0; printer < x.printerCount(); printer++) {
            state.append(" printer ").append(x.cityOf(printer)).append(' ').append(x.bestYear(printer))
                    .append(' ').append(x.bestScore(printer)).append(' ').append(x.bestYears(printer)).append(':');
            for (int number = 0; number <= 31; number++) {
                state.append(x.hasDevice(printer, number) ? " d" + number : "");
                state.append(x.hasTypeface(printer, number) ? " t" + number : "");
            }
        }
        for (int rank = 0; rank < x.clueCount(); rank++) {
            int clue = x.clueInOrder(rank);
            state.append(" clue ").append(clue).append(' ').append(x.pageOf(clue)).append(' ')
                    .append(x.kindOf(clue)).append(' ').append(x.valueOf(clue)).append(' ').append(x.weightOf(clue))
                    .append(x.isRead(clue) ? " read" : "").append(x.isAside(clue) ? " aside" : "");
        }
        state.append(" watermarks ").append(x.watermarkCount()).append(" editions ").append(x.editionCount());
        state.append(" error ").append(x.errorCode()).append(' ').append(x.errorPosition());
        return state.append(" output ").append(outputOf(x)).toString();
    }

    static String outputOf(ColophonDetective detective) {
        StringBuilder text = new StringBuilder();
        for (int i = 0; i < 2000 && detective.outputByte(i) != ColophonDetective.NONE; i++) {
            text.append((char) detective.outputByte(i));
        }
        return text.toString();
    }

    static void finish(String test) {
        System.out.println(test + ": " + compared + " answers compared, " + wrong + " wrong");
        if (wrong != 0) {
            System.exit(1);
        }
    }
}
