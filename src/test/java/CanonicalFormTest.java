import java.math.BigInteger;

/** Promises 15 to 17: the canonical form, its length, its characters and its digest. */
public final class CanonicalFormTest {
    public static void main(String[] args) {
        plainFields();
        relaxedFields();
        takingOrder();
        plainBody();
        relaxedBody();
        choicesAreApart();
        places();
        longest();
        digests();
        Due.end();
    }

    private static void fieldForm(String text, String list, boolean relaxed, String due) {
        MailVerdicts x = Due.message(text, list);
        Due.text("fields of " + text + " by " + list, Due.form(x, relaxed, true), due);
    }

    private static void bodyForm(String body, boolean relaxed, String due) {
        Due.text("body " + body, Due.form(Due.message("\n" + body, "a"), true, relaxed), due);
    }

    private static void plainFields() {
        fieldForm("Ab:  x  y \n", "aB", false, "Ab:  x  y \n");
        fieldForm("Ab:  x  y ", "aB", false, "Ab:  x  y \n");
        fieldForm("A:1\n  2 \n   \nB:3", "a", false, "A:1\n  2 \n   \n");
        fieldForm("B:3\nA:1\n  2", "a", false, "A:1\n  2\n");
        fieldForm("A:1", "", false, "");
        fieldForm("A:1", ":b:", false, "");
        fieldForm("", "a", false, "");
    }

    private static void relaxedFields() {
        fieldForm("aB-C09:X", "Ab-c09", true, "ab-c09:X\n");
        fieldForm("A:  X   Y  \n", "a", true, "a:X Y\n");
        fieldForm("A:X\n Y\n", "a", true, "a:X Y\n");
        fieldForm("A:X  \n   Y\n", "a", true, "a:X Y\n");
        fieldForm("A:\n   Y\n", "a", true, "a:Y\n");
        fieldForm("A: \n \n  \n", "a", true, "a:\n");
        fieldForm("A:", "a", true, "a:\n");
        fieldForm("A:X\n  \n  ", "a", true, "a:X\n");
        fieldForm("A:X\n \n Y: z\nB:2", "a", true, "a:X Y: z\n");
        fieldForm("A::X Y", "a", true, "a::X Y\n");
        fieldForm("A: : X", "a", true, "a:: X\n");
    }

    private static void takingOrder() {
        String text = "A:1\nB:2\na:3\nC:4\nA:5\n\n";
        fieldForm(text, "a", true, "a:5\n");
        fieldForm(text, "a:A", true, "a:5\na:3\n");
        fieldForm(text, "a:a:a", true, "a:5\na:3\na:1\n");
        fieldForm(text, "a:a:a:a:a", true, "a:5\na:3\na:1\n");
        fieldForm(text, "c:b:a", true, "c:4\nb:2\na:5\n");
        fieldForm(text, "a:b:a:d:c", false, "A:5\nB:2\na:3\nC:4\n");
        fieldForm(text, "::a::b:", true, "a:5\nb:2\n");
        fieldForm(text, ":", true, "");
        fieldForm(text, "ab:aa:-", true, "");
        fieldForm("Ab:1\nA:2\nAbc:3\n", "a:abc:ab", true, "a:2\nabc:3\nab:1\n");
        fieldForm("A:1\n\nA:2\n", "a", true, "a:1\na:2\n".replace("a:2", "A:2"));
        MailVerdicts x = Due.message(text, "a:a");
        Due.same("taken anew each time", x.length(true, true), 8);
        Due.same("taken anew each time", x.length(true, true), 8);
    }

    private static void plainBody() {
        bodyForm("", false, "\n");
        bodyForm("\n", false, "\n");
        bodyForm("\n\n\n", false, "\n");
        bodyForm("x", false, "x\n");
        bodyForm("x\n", false, "x\n");
        bodyForm("x\n\n\n", false, "x\n");
        bodyForm("\n\nx\n\ny\n\n", false, "\n\nx\n\ny\n");
        bodyForm(" ", false, " \n");
        bodyForm("x\n \n\n", false, "x\n \n");
        bodyForm("  x   y  ", false, "  x   y  \n");
        Due.text("no body", Due.form(Due.message("A:1", ""), true, false), "\n");
        Due.text("no body behind a field", Due.form(Due.message("A:1", "a"), false, false), "A:1\n\n");
    }

    private static void relaxedBody() {
        bodyForm("", true, "");
        bodyForm("\n", true, "");
        bodyForm("   \n \n", true, "");
        bodyForm("x", true, "x\n");
        bodyForm("x\n\n\n", true, "x\n");
        bodyForm("x\n \n  ", true, "x\n");
        bodyForm("\n \n x", true, "\n\n x\n");
        bodyForm("   x   y   \n", true, " x y\n");
        bodyForm("x  \n  y", true, "x\n y\n");
        bodyForm("x\n\n y\n", true, "x\n\n y\n");
        Due.text("no body", Due.form(Due.message("A:1", ""), true, true), "");
    }

    private static void choicesAreApart() {
        MailVerdicts x = Due.message("A:  1\n\n  b  \n", "a");
        Due.text("plain, plain", Due.form(x, false, false), "A:  1\n  b  \n");
        Due.text("plain, relaxed", Due.form(x, false, true), "A:  1\n b\n");
        Due.text("relaxed, plain", Due.form(x, true, false), "a:1\n  b  \n");
        Due.text("relaxed, relaxed", Due.form(x, true, true), "a:1\n b\n");
    }

    private static void places() {
        MailVerdicts x = Due.message("A:1", "a");
        Due.same("at 0", x.at(true, true, 0), 'a');
        Due.same("at 3", x.at(true, true, 3), 10);
        Due.same("at 4", x.at(true, true, 4), -1);
        Due.same("at -1", x.at(true, true, -1), -1);
        Due.same("at min", x.at(true, true, Integer.MIN_VALUE), -1);
        Due.same("at max", x.at(true, true, Integer.MAX_VALUE), -1);
        x.at(false, false, 0);
        Due.same("at 4 after a longer form", x.at(true, true, 4), -1);
    }

    private static void longest() {
        String text = "A:" + "x".repeat(238);
        MailVerdicts x = Due.message(text, "a");
        Due.text("the longest form", Due.form(x, false, false), text + "\n\n");
        Due.same("length", x.length(false, false), 242);
        MailVerdicts relaxed = Due.message(text, "a");
        Due.text("no body relaxed", Due.form(relaxed, false, true), text + "\n");
        MailVerdicts y = Due.message("\n" + " ".repeat(239), "");
        Due.same("spaces plain", y.length(false, false), 240);
        Due.same("spaces relaxed", y.length(false, true), 0);
        MailVerdicts z = Due.message("\n".repeat(240), "");
        Due.same("line ends plain", z.length(false, false), 1);
        Due.same("line ends relaxed", z.length(false, true), 0);
    }

    private static long digestOf(String text) {
        BigInteger sum = BigInteger.ZERO;
        for (char c : text.toCharArray()) {
            sum = sum.multiply(BigInteger.valueOf(257)).add(BigInteger.valueOf(c + 1));
        }
        return sum.mod(BigInteger.valueOf(2147483647)).longValue();
    }

    private static void digests() {
        Due.same("nothing", new MailVerdicts().digest(true, true), 0);
        Due.same("a 10", new MailVerdicts().digest(true, false), 11);
        Due.same("two characters", Due.message("\nA", "").digest(true, true), 66 * 257 + 11);
        String text = "A:" + "~".repeat(90) + "\n\n" + "~ !\n".repeat(36);
        MailVerdicts x = Due.message(text, "a");
        String field = "~".repeat(90) + "\n";
        String body = "~ !\n".repeat(36);
        Due.same("long plain", x.digest(false, false), digestOf("A:" + field + body));
        Due.same("long relaxed", x.digest(true, true), digestOf("a:" + field + body));
    }
}
