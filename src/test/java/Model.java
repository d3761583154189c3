import java.util.ArrayList;
import java.util.Comparator;
import java.util.List;

/**
 * The document told once more, as slowly and plainly as it can be: lists, strings, and every year
 * tried for every candidate. ModelTest compares the class with it. Exceptions are told by name.
 */
final class Model {
    static final class Printer {
        String name;
        int city;
        int first;
        int last;
        List<Integer> devices = new ArrayList<>();
        List<Integer> types = new ArrayList<>();

        Printer copy() {
            Printer other = new Printer();
            other.name = name;
            other.city = city;
            other.first = first;
            other.last = last;
            other.devices = new ArrayList<>(devices);
            other.types = new ArrayList<>(types);
            return other;
        }
    }

    static final class Clue {
        int page;
        int kind;
        int value;
        int weight;
        boolean read;
        boolean aside;

        Clue copy() {
            Clue other = new Clue();
            other.page = page;
            other.kind = kind;
            other.value = value;
            other.weight = weight;
            other.read = read;
            other.aside = aside;
            return other;
        }
    }

    static final class State {
        List<Printer> printers = new ArrayList<>();
        List<int[]> marks = new ArrayList<>();
        List<int[]> editions = new ArrayList<>();
        List<Clue> clues = new ArrayList<>();

        State copy() {
            State other = new State();
            printers.forEach(p -> other.printers.add(p.copy()));
            other.marks.addAll(marks);
            other.editions.addAll(editions);
            clues.forEach(c -> other.clues.add(c.copy()));
            return other;
        }

        Printer named(String name) {
            return printers.stream().filter(p -> p.name.equals(name)).findFirst().orElse(null);
        }

        boolean fits(int printer, int year, Clue clue) {
            Printer p = printers.get(printer);
            if (year < p.first || year > p.last) {
                return false;
            }
            if (clue.kind == 0) {
                return p.devices.contains(clue.value);
            }
            if (clue.kind == 1) {
                return p.types.contains(clue.value);
            }
            if (clue.kind == 2) {
                return year >= marks.get(clue.value)[0] && year <= marks.get(clue.value)[1] + 3;
            }
            return clue.kind == 3 ? clue.value == p.city : clue.value == year;
        }

        int score(int printer, int year) {
            return clues.stream().filter(c -> c.read && !c.aside && fits(printer, year, c)).mapToInt(c -> c.weight).sum();
        }

        int bestYear(int printer) {
            Printer p = printers.get(printer);
            int best = p.first;
            for (int year = p.first; year <= p.last; year++) {
                if (score(printer, year) > score(printer, best)) {
                    best = year;
                }
            }
            return best;
        }

        int bestScore(int printer) {
            return score(printer, bestYear(printer));
        }

        List<Integer> ranking() {
            List<int[]> pairs = new ArrayList<>();
            for (int p = 0; p < printers.size(); p++) {
                pairs.add(new int[] {p, bestScore(p)});
            }
            pairs.sort(Comparator.comparingInt((int[] pair) -> -pair[1]).thenComparingInt(pair -> pair[0]));
            List<Integer> ranking = new ArrayList<>();
            pairs.forEach(pair -> ranking.add(pair[0]));
            return ranking;
        }

        List<Integer> order() {
            List<Integer> order = new ArrayList<>();
            for (int c = 0; c < clues.size(); c++) {
                order.add(c);
            }
            order.sort(Comparator.comparingInt((Integer c) -> -clues.get(c).page).thenComparingInt(c -> c));
            return order;
        }

        int readOn(int count) {
            int done = 0;
            for (int c : order()) {
                if (!clues.get(c).read && done < count) {
                    clues.get(c).read = true;
                    done++;
                }
            }
            return done;
        }

        List<Integer> unexplained() {
            int printer = ranking().get(0);
            int year = bestYear(printer);
            List<Integer> open = new ArrayList<>();
            for (int c : order()) {
                Clue clue = clues.get(c);
                if (clue.read && !clue.aside && !fits(printer, year, clue)) {
                    open.add(c);
                }
            }
            return open;
        }

        boolean together(int a, int b) {
            for (int p = 0; p < printers.size(); p++) {
                for (int year = printers.get(p).first; year <= printers.get(p).last; year++) {
                    if (fits(p, year, clues.get(a)) && fits(p, year, clues.get(b))) {
                        return true;
                    }
                }
            }
            return false;
        }
    }

    /** An error in a text. */
    static final class TextError extends Exception {
        private static final long serialVersionUID = 1L;
        final int code;
        final int position;

        TextError(int code, int position) {
            this.code = code;
            this.position = position;
        }
    }

    static final String START = "printer aldus 1 1494 1515;printer estien 2 1502 1559;printer plantn 3 1555 1589;"
            + "device aldus 4;device estien 7;device plantn 4;type aldus 1;type estien 1;type plantn 2;mark 1500 1506;"
            + "mark 1556 1560;edition aldus 1501;edition plantn 1557;clue 200 device 4 5;clue 180 mark 0 3;"
            + "clue 180 year 1504 2;clue 90 city 3 4;clue 40 type 2 6;clue 12 mark 1 7;";
    static final List<String> SECTIONS = List.of("printer", "device", "type", "mark", "edition", "clue");
    static final List<String> VERBS = List.of("clue", "read", "aside", "back", "weigh", "lend");
    static final List<String> KINDS = List.of("device", "type", "mark", "city", "year");

    State state;
    State saved;
    List<State> history = new ArrayList<>();
    String buffer = "";
    String output = "";
    int code = 0;
    int position = -1;

    private String text;
    private int at;

    Model() {
        try {
            state = configuration(START);
        } catch (TextError e) {
            throw new IllegalStateException(e);
        }
    }

    // ---- tokens: peeked at by their text, "" at the end

    private String peek() {
        while (at < text.length() && text.charAt(at) == ' ') {
            at++;
        }
        String rest = text.substring(at);
        if (rest.isEmpty()) {
            return "";
        }
        String run = rest.replaceFirst("(?s)^([a-z]+|[0-9]+|.).*$", "$1");
        return run;
    }

    private TextError error(int errorCode) {
        peek();
        return new TextError(errorCode, at);
    }

    private void skip() {
        at += peek().length();
    }

    private int number(int low, int high) throws TextError {
        if (!peek().matches("[0-9]{1,4}")) {
            throw error(1);
        }
        int value = Integer.parseInt(peek());
        if (value < low || value > high) {
            throw error(2);
        }
        skip();
        return value;
    }

    private String name(State in, boolean isNew) throws TextError {
        String name = peek();
        if (!name.matches("[a-z]{1,6}")) {
            throw error(1);
        }
        if ((in.named(name) == null) != isNew) {
            throw error(3);
        }
        skip();
        return name;
    }

    private int printer(State in) throws TextError {
        return in.printers.indexOf(in.named(name(in, false)));
    }

    private void semicolon() throws TextError {
        if (!peek().equals(";")) {
            throw error(1);
        }
        skip();
    }

    private int[] clue(State in) throws TextError {
        int page = number(1, 999);
        int kind = KINDS.indexOf(peek());
        if (kind < 0) {
            throw error(1);
        }
        skip();
        int[] highest = {31, 15, in.marks.size() - 1, 9, 1999};
        int value = number(kind == 4 ? 1450 : 0, highest[kind]);
        return new int[] {page, kind, value, number(1, 9)};
    }

    private static void addTo(State in, int[] row) {
        Clue clue = new Clue();
        clue.page = row[0];
        clue.kind = row[1];
        clue.value = row[2];
        clue.weight = row[3];
        in.clues.add(clue);
    }

    private State configuration(String source) throws TextError {
        text = source;
        at = 0;
        State made = new State();
        int section = 0;
        while (!peek().isEmpty() || made.printers.isEmpty()) {
            int next = SECTIONS.indexOf(peek());
            if (next < section || made.printers.isEmpty() && next != 0) {
                throw error(1);
            }
            section = next;
            int[] sizes = {made.printers.size(), 0, 0, made.marks.size(), made.editions.size(), made.clues.size()};
            int[] limits = {8, 1, 1, 8, 12, 40};
            if (sizes[next] >= limits[next]) {
                throw error(4);
            }
            skip();
            statement(made, section);
            semicolon();
        }
        return made;
    }

    private void statement(State made, int section) throws TextError {
        if (section == 0) {
            Printer p = new Printer();
            p.name = name(made, true);
            p.city = number(0, 9);
            p.first = number(1450, 1999);
            p.last = number(p.first, 1999);
            made.printers.add(p);
        } else if (section == 1) {
            int p = printer(made);
            made.printers.get(p).devices.add(number(0, 31));
        } else if (section == 2) {
            int p = printer(made);
            made.printers.get(p).types.add(number(0, 15));
        } else if (section == 3) {
            int first = number(1450, 1999);
            made.marks.add(new int[] {first, number(first, 1999)});
        } else if (section == 4) {
            int p = printer(made);
            made.editions.add(new int[] {p, number(1450, 1999)});
        } else {
            addTo(made, clue(made));
        }
    }

    private List<int[]> commands() throws TextError {
        text = buffer;
        at = 0;
        List<int[]> commands = new ArrayList<>();
        while (!peek().isEmpty()) {
            int verb = VERBS.indexOf(peek());
            if (verb < 0) {
                throw error(1);
            }
            if (commands.size() == 30) {
                throw error(4);
            }
            skip();
            if (verb == 0) {
                int[] c = clue(state);
                commands.add(new int[] {0, c[0], c[1], c[2], c[3]});
            } else if (verb == 1) {
                commands.add(new int[] {1, number(1, 40)});
            } else if (verb == 4) {
                int k = number(0, 39);
                commands.add(new int[] {4, k, number(1, 9)});
            } else if (verb == 5) {
                int from = printer(state);
                int to = printer(state);
                commands.add(new int[] {5, from, to, number(0, 31)});
            } else {
                commands.add(new int[] {verb, number(0, 39)});
            }
            semicolon();
        }
        return commands;
    }

    // ---- operations; a String is the name of the exception, an Integer is the answer

    private boolean noClue(int clue) {
        return clue < 0 || clue >= state.clues.size();
    }

    private boolean noPrinter(int printer) {
        return printer < 0 || printer >= state.printers.size();
    }

    Object change(int verb, int a, int b, int c, int d) {
        if (verb == 0) {
            int[] highest = {31, 15, state.marks.size() - 1, 9, 1999};
            if (a < 1 || a > 999 || c < (b == 4 ? 1450 : 0) || c > highest[b] || d < 1 || d > 9) {
                return "IllegalArgumentException";
            }
            if (state.clues.size() == 40) {
                return "IllegalStateException";
            }
            addTo(state, new int[] {a, b, c, d});
            return state.clues.size() - 1;
        }
        if (verb == 1) {
            return a < 1 || a > 40 ? "IllegalArgumentException" : (Object) state.readOn(a);
        }
        if (verb == 5) {
            return lend(a, b, c);
        }
        if (verb == 6) {
            List<Integer> open = state.unexplained();
            open.forEach(clue -> state.clues.get(clue).aside = true);
            return open.size();
        }
        if (noClue(a)) {
            return "IndexOutOfBoundsException";
        }
        Clue clue = state.clues.get(a);
        if (verb == 4) {
            int before = clue.weight;
            if (b < 1 || b > 9) {
                return "IllegalArgumentException";
            }
            clue.weight = b;
            return before;
        }
        if (clue.aside == (verb == 2)) {
            return "IllegalStateException";
        }
        clue.aside = verb == 2;
        return state.bestScore(state.ranking().get(0));
    }

    private Object lend(int from, int to, int device) {
        if (noPrinter(from) || noPrinter(to)) {
            return "IndexOutOfBoundsException";
        }
        if (from == to) {
            return "IllegalArgumentException";
        }
        List<Integer> owned = state.printers.get(from).devices;
        if (!owned.contains(device)) {
            return "IllegalStateException";
        }
        owned.removeIf(n -> n == device);
        state.printers.get(to).devices.add(device);
        return (int) state.printers.stream().filter(p -> p.devices.contains(device)).count();
    }

    private void push(State before) {
        history.add(before);
        if (history.size() > 8) {
            history.remove(0);
        }
    }

    Object operate(int verb, int a, int b, int c, int d) {
        State before = state.copy();
        Object answer = change(verb, a, b, c, d);
        if (answer instanceof Integer) {
            push(before);
        }
        return answer;
    }

    Object load() {
        code = 0;
        position = -1;
        try {
            state = configuration(buffer);
            history.clear();
            return state.clues.size();
        } catch (TextError e) {
            code = e.code;
            position = e.position;
            return "IllegalArgumentException";
        } finally {
            buffer = "";
        }
    }

    Object executeCommands() {
        code = 0;
        position = -1;
        try {
            List<int[]> commands = commands();
            push(state.copy());
            int done = 0;
            for (int[] row : commands) {
                int[] r = java.util.Arrays.copyOf(row, 5);
                if (change(r[0], r[1], r[2], r[3], r[4]) instanceof String) {
                    break;
                }
                done++;
            }
            return done;
        } catch (TextError e) {
            code = e.code;
            position = e.position;
            return "IllegalArgumentException";
        } finally {
            buffer = "";
        }
    }

    Object undo() {
        if (history.isEmpty()) {
            return "IllegalStateException";
        }
        state = history.remove(history.size() - 1);
        return history.size();
    }

    Object save() {
        saved = state.copy();
        return state.clues.size();
    }

    Object restore() {
        if (saved == null) {
            return "IllegalStateException";
        }
        state = saved.copy();
        history.clear();
        return state.clues.size();
    }

    Object formatVerdict() {
        int printer = state.ranking().get(0);
        StringBuilder made = new StringBuilder(state.printers.get(printer).name + " " + state.bestYear(printer));
        List<Integer> open = state.unexplained();
        for (int c : state.order()) {
            if (state.clues.get(c).read && !state.clues.get(c).aside) {
                made.append(open.contains(c) ? "-" : "+").append(c);
            }
        }
        output = made.toString();
        return output.length();
    }
}
