import java.util.ArrayList;
import java.util.List;

/** Long runs of calls, made up by a number sequence, are answered by the class as by the model. */
public final class ModelTest {
    private static final int RUNS = 150;
    private static final int STEPS = 60;

    private long seed;
    private final ColophonDetective x = new ColophonDetective();
    private final Model model = new Model();
    private final StringBuilder told = new StringBuilder();

    private ModelTest(long seed) {
        this.seed = seed;
    }

    public static void main(String[] args) {
        long from = args.length > 0 ? Long.parseLong(args[0]) : 1;
        for (long run = from; run < from + RUNS; run++) {
            new ModelTest(run * 7919 + 17).go();
        }
        Check.finish("ModelTest");
    }

    private int pick(int count) {
        seed = seed * 6364136223846793005L + 1442695040888963407L;
        return (int) ((seed >>> 33) % count);
    }

    private int between(int low, int high) {
        return low + pick(high - low + 1);
    }

    private void go() {
        for (int step = 0; step < STEPS; step++) {
            int choice = pick(20);
            if (choice == 0) {
                text(true);
            } else if (choice < 4) {
                text(false);
            } else if (choice < 6) {
                compare("undo", result(x::undo), model.undo());
            } else if (choice == 6) {
                compare("save", result(x::save), model.save());
            } else if (choice == 7) {
                compare("restore", result(x::restore), model.restore());
            } else if (choice == 8) {
                compare("formatVerdict", result(x::formatVerdict), model.formatVerdict());
            } else {
                operation();
            }
            if (pick(3) == 0) {
                facts();
                verdict();
                predictions();
            }
        }
    }

    private static Object result(Check.Call call) {
        try {
            return (int) call.answer();
        } catch (RuntimeException e) {
            return e.getClass().getSimpleName();
        }
    }

    private void compare(String what, Object got, Object want) {
        told.append(what).append('\n');
        if (!got.equals(want)) {
            System.out.println(told);
            told.setLength(0);
        }
        Check.due(what, got.toString(), want.toString());
    }

    private void same(String what, long got, long want) {
        if (got != want) {
            System.out.println(told);
            told.setLength(0);
        }
        Check.due(what, got, want);
    }

    private void operation() {
        int marks = model.state.marks.size();
        int clue = between(-1, model.state.clues.size());
        switch (pick(7)) {
            case 0:
                add(between(0, 4), pick(8) == 0 ? between(-1, 1001) : 10 * between(1, 9), pick(8) == 0 ? between(0, 10) : between(1, 9), marks);
                break;
            case 1:
                int count = pick(4) == 0 ? between(-1, 42) : between(1, 5);
                compare("read " + count, result(() -> x.read(count)), model.operate(1, count, 0, 0, 0));
                break;
            case 2:
                compare("setAside " + clue, result(() -> x.setAside(clue)), model.operate(2, clue, 0, 0, 0));
                break;
            case 3:
                compare("takeBack " + clue, result(() -> x.takeBack(clue)), model.operate(3, clue, 0, 0, 0));
                break;
            case 4:
                int weight = between(0, 10);
                compare("setWeight " + clue + " " + weight, result(() -> x.setWeight(clue, weight)), model.operate(4, clue, weight, 0, 0));
                break;
            case 5:
                int from = between(-1, model.state.printers.size());
                int to = between(-1, model.state.printers.size());
                int device = between(-1, 9);
                compare("transfer " + from + " " + to + " " + device, result(() -> x.transferDevice(from, to, device)),
                        model.operate(5, from, to, device, 0));
                break;
            default:
                compare("setAsideUnexplained", result(x::setAsideUnexplained), model.operate(6, 0, 0, 0, 0));
                break;
        }
    }

    private void add(int kind, int page, int weight, int marks) {
        int value = kind == 4 ? (pick(9) == 0 ? between(1449, 2000) : between(1499, 1521)) : kind == 2 ? between(-1, marks) : between(-1, 9);
        Object got = result(() -> kind == 0 ? x.addDeviceClue(page, value, weight)
                : kind == 1 ? x.addTypefaceClue(page, value, weight)
                : kind == 2 ? x.addWatermarkClue(page, value, weight)
                : kind == 3 ? x.addCityClue(page, value, weight) : x.addDateClue(page, value, weight));
        compare("add " + kind + " " + page + " " + value + " " + weight, got, model.operate(0, page, kind, value, weight));
    }

    // ---- texts: mostly sound, now and then with a wound

    private void text(boolean isConfiguration) {
        String text = isConfiguration ? configuration() : commands();
        if (pick(3) == 0) {
            text = wounded(text);
        }
        if (text.length() > 1380) {
            return;
        }
        x.truncate(0);
        Check.send(x, 0, text);
        model.buffer = text;
        told.append(text).append('\n');
        same("findPrinter", x.findPrinter(), model.state.printers.indexOf(model.state.named(text)));
        if (isConfiguration) {
            compare("load", result(x::load), model.load());
        } else {
            compare("executeCommands", result(x::executeCommands), model.executeCommands());
        }
        same("errorCode", x.errorCode(), model.code);
        same("errorPosition", x.errorPosition(), model.position);
    }

    private String name(int printers) {
        String[] names = {"a", "ab", "abc", "clue", "device", "z", "zz", "zzzzzz"};
        return names[pick(60) == 0 ? pick(names.length) : pick(Math.max(1, Math.min(printers, names.length)))];
    }

    private String clue(int marks) {
        int kind = pick(5);
        int value = kind == 4 ? between(1499, 1521) : kind == 2 ? between(0, Math.max(0, marks - 1)) : between(0, 9);
        return "clue " + between(1, 30) + " " + Model.KINDS.get(kind) + " " + value + " " + between(1, 9) + ";";
    }

    private String configuration() {
        StringBuilder text = new StringBuilder();
        int printers = between(1, 8);
        int marks = pick(4) == 0 ? 0 : between(1, 8);
        String[] names = {"a", "ab", "abc", "clue", "device", "z", "zz", "zzzzzz"};
        for (int p = 0; p < printers; p++) {
            int first = pick(6) == 0 ? between(1450, 1999) : between(1500, 1515);
            text.append("printer ").append(names[p]).append(' ').append(pick(4)).append(' ').append(first).append(' ')
                    .append(Math.min(1999, first + pick(20))).append(';');
        }
        for (int i = pick(8); i > 0; i--) {
            text.append("device ").append(name(printers)).append(' ').append(pick(10)).append(';');
        }
        for (int i = pick(8); i > 0; i--) {
            text.append("type ").append(name(printers)).append(' ').append(pick(10)).append(';');
        }
        for (int i = 0; i < marks; i++) {
            int first = pick(6) == 0 ? between(1450, 1999) : between(1496, 1520);
            text.append("mark ").append(first).append(' ').append(Math.min(1999, first + pick(6))).append(';');
        }
        for (int i = pick(13); i > 0; i--) {
            text.append("edition ").append(name(printers)).append(' ').append(between(1499, 1521)).append(';');
        }
        for (int i = pick(41); i > 0; i--) {
            text.append(clue(marks));
        }
        return text.toString();
    }

    private String commands() {
        StringBuilder text = new StringBuilder();
        int printers = model.state.printers.size();
        List<String> names = new ArrayList<>();
        model.state.printers.forEach(p -> names.add(p.name));
        for (int i = pick(10) == 0 ? 32 : pick(9); i > 0; i--) {
            int clue = pick(Math.max(1, model.state.clues.size()));
            switch (pick(6)) {
                case 0:
                    text.append(clue(model.state.marks.size()));
                    break;
                case 1:
                    text.append("read ").append(between(1, 4)).append(';');
                    break;
                case 2:
                    text.append("aside ").append(clue).append(';');
                    break;
                case 3:
                    text.append(pick(3) == 0 ? "back " : "aside ").append(clue).append(';');
                    break;
                case 4:
                    text.append("weigh ").append(clue).append(' ').append(between(1, 9)).append(';');
                    break;
                default:
                    text.append("lend ").append(names.get(pick(printers))).append(' ').append(names.get(pick(printers)))
                            .append(' ').append(pick(10)).append(';');
                    break;
            }
        }
        return text.toString();
    }

    private String wounded(String text) {
        String[] pieces = {" ", ";", "0", "9", "a", "z", "#", "clue ", "read ", "printer ", "mark ", "edition ", "99999", "abcdefg",
            "\u00e9", "\0"};
        StringBuilder wounded = new StringBuilder(text);
        for (int i = between(1, 2); i > 0; i--) {
            int place = pick(wounded.length() + 1);
            switch (pick(4)) {
                case 0:
                    wounded.insert(place, pieces[pick(pieces.length)]);
                    break;
                case 1:
                    wounded.setLength(place);
                    break;
                case 2:
                    if (place < wounded.length()) {
                        wounded.setCharAt(place, pieces[pick(pieces.length)].charAt(0));
                    }
                    break;
                default:
                    if (place < wounded.length()) {
                        wounded.deleteCharAt(place);
                    }
                    break;
            }
        }
        return wounded.toString();
    }

    // ---- everything that can be asked

    private void facts() {
        Model.State s = model.state;
        same("printerCount", x.printerCount(), s.printers.size());
        same("watermarkCount", x.watermarkCount(), s.marks.size());
        same("editionCount", x.editionCount(), s.editions.size());
        same("clueCount", x.clueCount(), s.clues.size());
        for (int p = 0; p < s.printers.size(); p++) {
            same("cityOf", x.cityOf(p), s.printers.get(p).city);
            for (int n = 0; n < 10; n++) {
                same("hasDevice", x.hasDevice(p, n) ? 1 : 0, s.printers.get(p).devices.contains(n) ? 1 : 0);
                same("hasTypeface", x.hasTypeface(p, n) ? 1 : 0, s.printers.get(p).types.contains(n) ? 1 : 0);
            }
        }
        int year = between(1450, 1999);
        same("watermarksOf", x.watermarksOf(year), s.marks.stream().filter(m -> year >= m[0] && year <= m[1] + 3).count());
        int counting = 0;
        int next = -1;
        for (int rank = 0; rank < s.clues.size(); rank++) {
            int c = s.order().get(rank);
            Model.Clue clue = s.clues.get(c);
            same("clueInOrder", x.clueInOrder(rank), c);
            same("kindOf", x.kindOf(c), clue.kind);
            same("valueOf", x.valueOf(c), clue.value);
            same("pageOf", x.pageOf(c), clue.page);
            same("weightOf", x.weightOf(c), clue.weight);
            same("isRead", x.isRead(c) ? 1 : 0, clue.read ? 1 : 0);
            same("isAside", x.isAside(c) ? 1 : 0, clue.aside ? 1 : 0);
            counting += clue.read && !clue.aside ? clue.weight : 0;
            next = next < 0 && !clue.read ? c : next;
        }
        same("countingWeight", x.countingWeight(), counting);
        same("nextClue", x.nextClue(), next);
        Check.due("output", Check.outputOf(x), model.output);
    }

    private void verdict() {
        Model.State s = model.state;
        List<Integer> ranking = s.ranking();
        for (int p = 0; p < s.printers.size(); p++) {
            int best = s.bestYear(p);
            int top = s.bestScore(p);
            int printer = p;
            same("bestYear", x.bestYear(p), best);
            same("bestScore", x.bestScore(p), top);
            int years = 0;
            for (int year = s.printers.get(p).first; year <= s.printers.get(p).last; year++) {
                years += s.score(printer, year) == top ? 1 : 0;
            }
            same("bestYears", x.bestYears(p), years);
            same("printerByRank", x.printerByRank(p), ranking.get(p));
            int year = between(1450, 1999);
            boolean isActive = year >= s.printers.get(p).first && year <= s.printers.get(p).last;
            same("score", x.score(p, year), isActive ? s.score(p, year) : -1);
            same("score", x.score(p, best), top);
            same("isActive", x.isActive(p, year) ? 1 : 0, isActive ? 1 : 0);
            for (int c = 0; c < s.clues.size(); c++) {
                same("explains", x.explains(p, best, c) ? 1 : 0, s.fits(p, best, s.clues.get(c)) ? 1 : 0);
                same("explains", x.explains(p, year, c) ? 1 : 0, s.fits(p, year, s.clues.get(c)) ? 1 : 0);
            }
        }
        int first = ranking.get(0);
        int score = s.bestScore(first);
        same("verdictPrinter", x.verdictPrinter(), first);
        same("verdictYear", x.verdictYear(), s.bestYear(first));
        same("verdictScore", x.verdictScore(), score);
        same("margin", x.margin(), ranking.size() > 1 ? score - s.bestScore(ranking.get(1)) : score);
        List<Integer> open = s.unexplained();
        same("unexplainedCount", x.unexplainedCount(), open.size());
        for (int rank = 0; rank <= open.size(); rank++) {
            same("unexplainedClue", x.unexplainedClue(rank), rank < open.size() ? open.get(rank) : -1);
        }
        int edition = -1;
        for (int e = s.editions.size() - 1; e >= 0; e--) {
            if (s.editions.get(e)[0] == first && Math.abs(s.editions.get(e)[1] - s.bestYear(first)) <= 1) {
                edition = e;
            }
        }
        same("matchingEdition", x.matchingEdition(), edition);
        int counting = x.countingWeight();
        Check.due("confidence", x.confidence(), counting == 0 ? 0.0 : (double) score / (double) counting);
        same("rankingErrors", x.rankingErrors(), 0);
        contradictions();
    }

    private void contradictions() {
        Model.State s = model.state;
        int impossible = 0;
        for (int c = 0; c < s.clues.size(); c++) {
            impossible += s.together(c, c) ? 0 : 1;
        }
        same("impossibleClues", x.impossibleClues(), impossible);
        if (!s.clues.isEmpty()) {
            int c = pick(s.clues.size());
            int count = 0;
            for (int other = 0; other < s.clues.size(); other++) {
                boolean against = c != other && !s.together(c, other);
                same("contradict", x.contradict(c, other) ? 1 : 0, against ? 1 : 0);
                count += against ? 1 : 0;
            }
            same("contradictionsOf", x.contradictionsOf(c), count);
        }
    }

    private void predictions() {
        Model.State s = model.state;
        int first = s.ranking().get(0);
        int change = -1;
        for (int count = 40; count >= 0; count -= count > 12 ? 7 : 1) {
            State later = new State(s, count);
            same("printerAfter " + count, x.printerAfter(count), later.printer);
            same("yearAfter " + count, x.yearAfter(count), later.year);
        }
        int unread = (int) s.clues.stream().filter(c -> !c.read).count();
        for (int count = unread; count >= 1; count--) {
            change = new State(s, count).printer == first ? change : count;
        }
        same("cluesUntilChange", x.cluesUntilChange(), change);
        int decisive = -1;
        for (int c = s.clues.size() - 1; c >= 0; c--) {
            Model.State without = s.copy();
            boolean counts = s.clues.get(c).read && !s.clues.get(c).aside;
            without.clues.get(c).aside = true;
            decisive = counts && without.ranking().get(0) != first ? c : decisive;
        }
        same("decisiveClue", x.decisiveClue(), decisive);
    }

    /** The verdict after reading on. */
    private static final class State {
        final int printer;
        final int year;

        State(Model.State now, int count) {
            Model.State later = now.copy();
            later.readOn(count);
            printer = later.ranking().get(0);
            year = later.bestYear(printer);
        }
    }
}
