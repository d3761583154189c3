import java.nio.charset.StandardCharsets;
import java.nio.file.Files;
import java.nio.file.Path;
import java.util.List;

/** The class keeps to ../shared/LANGUAGE.md; texts that do not are told, so that the test is one. */
public final class LanguageTest {
    public static void main(String[] args) throws Exception {
        String source = Files.readString(Path.of("src/main/java/ColophonDetective.java"), StandardCharsets.UTF_8);
        Check.due("what stands outside the rules", LanguageRules.findings(source).toString(), "[]");
        told("", "public int f(int a) { return Math.max(a, 1); }");
        told("1", "public int f() { return 1; } private int f(int a) { return a; }");
        told("2", "private final class Inner { }");
        told("2", "private interface F { int f(); } public void g() { F f = () -> 1; }");
        told("2", "private interface F { int f(); } private int one() { return 1; } public void g() { F f = this::one; }");
        told("3", "private Object held;");
        told("3", "private String[][] held;");
        told("4", "public long f() { return System.nanoTime(); }");
        told("4", "public int f() { return Math.addExact(1, 2); }");
        told("4", "private static final String SIGN = \"\\u00e9\";");
        told("5", "private static int count = 0;");
        told("5", "private static final int[] ROW = new int[3];");
        told("6", "public void f() { try { g(); } catch (RuntimeException e) { } } private void g() { }", "3");
        told("6", "public void f(int a) { throw new IllegalStateException(String.valueOf(a)); }", "4");
        told("6", "public void f() { throw new Error(); }");
        told("6", "ColophonDetective() { throw new IllegalStateException(); }");
        told("6", "public boolean f(String a) { return a == \"a\"; }");
        told("6", "public void f(int a) { assert a > 0; }");
        told("6", "public int hashCode() { return 1; }");
        told("9", "public void f() { while (true) { } }");
        told("9", "public void f() { for (;;) { } }");
        told("10", "public String f(String a) { return a + 1; }");
        told("10", "public String f(String a) { a += 1; return a; }");
        told("11", "public void f(int a, int b, int c, int d, int e, int f, int g, int h) { }");
        told("11", "public void f() {" + "\n".repeat(60) + "}");
        told("11", "public void f() { g(); } private void g() { f(); }");
        told("11", chain(9));
        told("", chain(8));
        told("11", "private int a0" + numbered(20) + ";");
        told("12", "public void f() { int[] a = new int[3]; }");
        told("12", "public void f() { ColophonDetective a = new ColophonDetective(); }", "3");
        Check.finish("LanguageTest");
    }

    /** Methods of which each calls the next one. */
    private static String chain(int methods) {
        StringBuilder text = new StringBuilder("public void m0() { }");
        for (int n = 1; n < methods; n++) {
            text.append(" public void m").append(n).append("() { m").append(n - 1).append("(); }");
        }
        return text.toString();
    }

    private static String numbered(int last) {
        StringBuilder text = new StringBuilder();
        for (int n = 1; n <= last; n++) {
            text.append(", a").append(n);
        }
        return text.toString();
    }

    /** All rules that a body breaks are the given one, or another one that goes with it. */
    private static void told(String rule, String body, String... more) {
        List<String> findings = LanguageRules.findings("public final class ColophonDetective { " + body + " }");
        boolean isTold = rule.isEmpty() && findings.isEmpty();
        boolean isOther = false;
        for (String finding : findings) {
            String number = finding.substring(0, finding.indexOf(':'));
            isTold |= number.equals(rule);
            isOther |= !number.equals(rule) && !List.of(more).contains(number);
        }
        Check.due("rule " + rule + " is told for " + body.strip() + " " + findings, isTold && !isOther, true);
    }
}
