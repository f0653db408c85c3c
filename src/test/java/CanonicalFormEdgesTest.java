/** The boundary cases of the canonical form (promises 15 to 17), each sentence with a test of its own. */
public final class CanonicalFormEdgesTest {
    private static final int[] PLACES_OUTSIDE = {Integer.MIN_VALUE, -2, -1, Integer.MAX_VALUE};

    public static void main(String[] args) {
        nothingTaken();
        emptyNames();
        lastOneIsTaken();
        noneIsLeft();
        wholeNamesAreCompared();
        capitalsAreSmall();
        plainLines();
        relaxedRowsOfSpaces();
        relaxedLinesAreJoined();
        relaxedFieldOfSpaces();
        onlyTheNameIsMadeSmall();
        noBody();
        plainBodyOfEmptyLines();
        plainBodyEnd();
        relaxedBodyOfEmptyLines();
        relaxedBodyRowsOfSpaces();
        relaxedBodyEnd();
        bodyBehindFields();
        placesOutside();
        illFormed();
        longestForms();
        digestOfNothing();
        digestSteps();
        digestRemainder();
        Due.end();
    }

    private static void fields(String text, String list, String plain, String relaxed) {
        String what = "fields of <" + text.replace("\n", "\\n") + "> by <" + list + ">";
        MailVerdicts x = Due.message(text, list);
        Due.text(what + ", plain", Due.form(x, false, true), plain);
        Due.text(what + ", relaxed", Due.form(x, true, true), relaxed);
    }

    private static void body(String body, String plain, String relaxed) {
        String what = "body <" + body.replace("\n", "\\n") + ">";
        MailVerdicts x = Due.message("A: 1 \n\n" + body, "");
        Due.text(what + ", plain", Due.form(x, true, false), plain);
        Due.text(what + ", relaxed", Due.form(x, false, true), relaxed);
    }

    private static void nothingTaken() {
        Due.about("THE LIST: a name takes none if there is none");
        fields("A:1\n", "", "", "");
        fields("A:1\n", "b", "", "");
        fields("A:1\n", "b:c:-", "", "");
        fields("", "a", "", "");
        fields("\nA:1", "b", "A:1\n", "A:1\n");
    }

    private static void emptyNames() {
        Due.about("THE LIST: what has no character between colons is no name");
        fields("A:1\nB:2\n", ":", "", "");
        fields("A:1\nB:2\n", "::", "", "");
        fields("A:1\nB:2\n", ":a", "A:1\n", "a:1\n");
        fields("A:1\nB:2\n", "a:", "A:1\n", "a:1\n");
        fields("A:1\nB:2\n", "::a:::b::", "A:1\nB:2\n", "a:1\nb:2\n");
    }

    private static void lastOneIsTaken() {
        Due.about("THE LIST: of the fields that were not taken before, the one that is last");
        String text = "A:1\nB:2\nA:3\nB:4\nA:5\n";
        fields(text, "a", "A:5\n", "a:5\n");
        fields(text, "a:a", "A:5\nA:3\n", "a:5\na:3\n");
        fields(text, "b:a:b:a", "B:4\nA:5\nB:2\nA:3\n", "b:4\na:5\nb:2\na:3\n");
    }

    private static void noneIsLeft() {
        Due.about("THE LIST: or none if there is none left");
        fields("A:1\n", "a:a", "A:1\n", "a:1\n");
        fields("A:1\nB:2\n", "a:a:b:a:b", "A:1\nB:2\n", "a:1\nb:2\n");
        fields("A:1\nA:2\n", "a:a:a:a", "A:2\nA:1\n", "a:2\na:1\n");
    }

    private static void wholeNamesAreCompared() {
        Due.about("THE LIST: fields with this name");
        fields("A:1\nAB:2\nABC:3\n", "ab", "AB:2\n", "ab:2\n");
        fields("A:1\nABC:3\n", "ab", "", "");
        fields("A-B:1\nAB:2\n", "a-b", "A-B:1\n", "a-b:1\n");
        fields("A0:1\nA1:2\n", "a0", "A0:1\n", "a0:1\n");
    }

    private static void capitalsAreSmall() {
        Due.about("THE LIST: names are the same if they are after making capital letters small");
        fields("AZaz-09:1\n", "azAZ-09", "AZaz-09:1\n", "azaz-09:1\n");
        fields("azAZ-09:1\n", "AZaz-09", "azAZ-09:1\n", "azaz-09:1\n");
        fields("Mn:1\n", "mN", "Mn:1\n", "mn:1\n");
    }

    private static void plainLines() {
        Due.about("THE CANONICAL FORM: plainly, the lines of the field, each followed by 10");
        Due.text("a last line without its end", Due.form(Due.message("A:", "a"), false, true), "A:\n");
        Due.text("with its end", Due.form(Due.message("A:\n", "a"), false, true), "A:\n");
        Due.text("lines that go on", Due.form(Due.message("A:  \n  \n b ", "a"), false, true), "A:  \n  \n b \n");
        Due.text("up to the empty line", Due.form(Due.message("A:\n x\n\nb", "a"), false, true), "A:\n x\nb\n");
    }

    private static void relaxedRowsOfSpaces() {
        Due.about("THE CANONICAL FORM: every row of spaces made one space and those at its beginning and end left out");
        fields("A:x y\n", "a", "A:x y\n", "a:x y\n");
        fields("A:x  y\n", "a", "A:x  y\n", "a:x y\n");
        fields("A:    x     y    \n", "a", "A:    x     y    \n", "a:x y\n");
        fields("A: x\n", "a", "A: x\n", "a:x\n");
        fields("A:x ", "a", "A:x \n", "a:x\n");
    }

    private static void relaxedLinesAreJoined() {
        Due.about("THE CANONICAL FORM: what stands behind the colon in all lines, joined with nothing between");
        fields("A:x\n y\n", "a", "A:x\n y\n", "a:x y\n");
        fields("A:x  \n  y\n", "a", "A:x  \n  y\n", "a:x y\n");
        fields("A:x\n \n \n y\n", "a", "A:x\n \n \n y\n", "a:x y\n");
        fields("A:\n y: z\n", "a", "A:\n y: z\n", "a:y: z\n");
        fields("A:x\n y\n  \n", "a", "A:x\n y\n  \n", "a:x y\n");
    }

    private static void relaxedFieldOfSpaces() {
        Due.about("THE CANONICAL FORM: relaxed, a field with nothing or spaces alone behind its colon");
        fields("A:\n", "a", "A:\n", "a:\n");
        fields("A: \n", "a", "A: \n", "a:\n");
        fields("A:   \n   \n ", "a", "A:   \n   \n \n", "a:\n");
    }

    private static void onlyTheNameIsMadeSmall() {
        Due.about("THE CANONICAL FORM: relaxed, the name in small letters");
        fields("AZ:AZ\n AZ:Q\n", "az", "AZ:AZ\n AZ:Q\n", "az:AZ AZ:Q\n");
        fields("A::B\n", "a", "A::B\n", "a::B\n");
    }

    private static void noBody() {
        Due.about("THE CANONICAL FORM: a body that is not there, plainly a single 10, relaxed nothing");
        String[] texts = {"", "A:1", "A:1\n", "A:1\n\n", "\n"};
        for (String text : texts) {
            MailVerdicts x = Due.message(text, "");
            Due.text("plain", Due.form(x, false, false), "\n");
            Due.text("relaxed", Due.form(x, false, true), "");
        }
    }

    private static void plainBodyOfEmptyLines() {
        Due.about("THE CANONICAL FORM: plainly, a single 10 if there are no lines left");
        for (int lines = 0; lines <= 4; lines++) {
            body("\n".repeat(lines), "\n", "");
        }
    }

    private static void plainBodyEnd() {
        Due.about("THE CANONICAL FORM: plainly, its lines without the empty ones at its end");
        body("x", "x\n", "x\n");
        body("x\n", "x\n", "x\n");
        body("x\n\n", "x\n", "x\n");
        body("x\n\n\n\n", "x\n", "x\n");
        body("\nx\n", "\nx\n", "\nx\n");
        body("x\n\ny\n\n", "x\n\ny\n", "x\n\ny\n");
        body("x\n \n\n", "x\n \n", "x\n");
    }

    private static void relaxedBodyOfEmptyLines() {
        Due.about("THE CANONICAL FORM: relaxed, nothing if there are no lines left");
        body(" ", " \n", "");
        body("   \n", "   \n", "");
        body(" \n  \n   ", " \n  \n   \n", "");
        body("\n\n \n\n", "\n\n \n", "");
    }

    private static void relaxedBodyRowsOfSpaces() {
        Due.about("THE CANONICAL FORM: relaxed, in each line every row of spaces made one, those at its end left out");
        body("x  y", "x  y\n", "x y\n");
        body(" x", " x\n", " x\n");
        body("   x", "   x\n", " x\n");
        body("x ", "x \n", "x\n");
        body("x   \ny", "x   \ny\n", "x\ny\n");
        body("x   \n   y", "x   \n   y\n", "x\n y\n");
        body("x\n   \ny", "x\n   \ny\n", "x\n\ny\n");
    }

    private static void relaxedBodyEnd() {
        Due.about("THE CANONICAL FORM: relaxed, then the lines without the empty ones at the end");
        body("x\n   ", "x\n   \n", "x\n");
        body("x\n \n\n  \n", "x\n \n\n  \n", "x\n");
        body("\n \nx\n \n", "\n \nx\n \n", "\n\nx\n");
    }

    private static void bodyBehindFields() {
        Due.about("THE CANONICAL FORM: first the fields that were taken, behind them the body");
        MailVerdicts x = Due.message("A:1\nB:  2\n\n  \n", "b:a");
        Due.text("plain, plain", Due.form(x, false, false), "B:  2\nA:1\n  \n");
        Due.text("plain, relaxed", Due.form(x, false, true), "B:  2\nA:1\n");
        Due.text("relaxed, plain", Due.form(x, true, false), "b:2\na:1\n  \n");
        Due.text("relaxed, relaxed", Due.form(x, true, true), "b:2\na:1\n");
        Due.text("no body", Due.form(Due.message("A:1", "a"), false, false), "A:1\n\n");
    }

    private static void placesOutside() {
        Due.about("Promise 16: -1 when there is none");
        MailVerdicts x = Due.message("A: 1 \n\n b  c", "a");
        for (int choice = 0; choice < 4; choice++) {
            boolean fields = choice / 2 == 1;
            boolean body = choice % 2 == 1;
            int length = x.length(fields, body);
            for (int i : PLACES_OUTSIDE) {
                Due.same("at(" + i + ")", x.at(fields, body, i), -1);
            }
            Due.same("the first", x.at(fields, body, 0), fields ? 'a' : 'A');
            Due.same("the last", x.at(fields, body, length - 1), 10);
            Due.same("behind the last", x.at(fields, body, length), -1);
            Due.same("further behind", x.at(fields, body, length + 1), -1);
        }
        MailVerdicts y = new MailVerdicts();
        Due.same("at 0 of nothing", y.at(true, true, 0), -1);
        Due.same("at 0 of a 10", y.at(true, false, 0), 10);
        Due.same("at 1 of a 10", y.at(true, false, 1), -1);
        Due.same("at 0 of nothing again", y.at(true, true, 0), -1);
    }

    private static void illFormed() {
        Due.about("Promises 15 to 17: -1 when the message is ill-formed");
        String[] texts = {"A", ":", " A:1", "A:1\nB\n", "A B:1\n\nbody", "A:\n".repeat(13)};
        for (String text : texts) {
            MailVerdicts x = Due.message(text, "a");
            for (int choice = 0; choice < 4; choice++) {
                boolean fields = choice / 2 == 1;
                boolean body = choice % 2 == 1;
                Due.same("length", x.length(fields, body), -1);
                Due.same("digest", x.digest(fields, body), -1);
                Due.same("at(0)", x.at(fields, body, 0), -1);
                Due.same("at(-1)", x.at(fields, body, -1), -1);
            }
        }
        MailVerdicts x = Due.message("A:1\nB", "a");
        Due.same("ill-formed", x.length(true, true), -1);
        Due.typed(x, ":");
        Due.same("mended", x.length(true, true), 4);
        Due.typed(x, "\nC");
        Due.same("ill-formed again", x.length(true, true), -1);
    }

    private static void longestForms() {
        Due.about("THE CANONICAL FORM: of a message of 240 characters");
        String field = "A:" + "x".repeat(238);
        MailVerdicts x = Due.message(field, "a");
        Due.same("a field without its end and no body", x.length(false, false), 242);
        Due.same("relaxed", x.length(true, true), 241);
        Due.same("the last of the field", x.at(false, false, 239), 'x');
        Due.same("its end", x.at(false, false, 240), 10);
        Due.same("the end of no body", x.at(false, false, 241), 10);
        Due.same("behind it", x.at(false, false, 242), -1);
        MailVerdicts y = Due.message("A:1\n\n" + "x".repeat(235), "a");
        Due.same("a body without its end", y.length(false, false), 240);
        Due.same("relaxed", y.length(true, true), 240);
        MailVerdicts z = Due.message("A:\n".repeat(12) + "\n" + " \n".repeat(101) + "x", ("a:").repeat(12));
        Due.same("twelve fields and lines of a space", z.length(false, false), 36 + 204);
        Due.same("relaxed", z.length(true, true), 36 + 103);
    }

    private static void digestOfNothing() {
        Due.about("THE DIGEST: 0 at first");
        MailVerdicts x = new MailVerdicts();
        Due.same("of nothing", x.digest(true, true), 0);
        Due.same("of nothing, plain fields", x.digest(false, true), 0);
        Due.same("of a 10", x.digest(false, false), 11);
    }

    private static void digestSteps() {
        Due.about("THE DIGEST: 257 times that plus c plus 1");
        Due.same("two characters", Due.message("\n!", "").digest(true, true), 34 * 257 + 11);
        Due.same("three characters", Due.message("\n~!", "").digest(true, true), (127 * 257 + 34) * 257 + 11);
        Due.same("the order counts", Due.message("\n!~", "").digest(true, true), (34 * 257 + 127) * 257 + 11);
    }

    private static void digestRemainder() {
        Due.about("THE DIGEST: modulo 2147483647");
        Due.same("below the modulus", Due.message("\n}~~", "").digest(true, true),
                ((126 * 257 + 127) * 257 + 127) * 257 + 11);
        Due.same("above the modulus", Due.message("\n~!!", "").digest(true, true),
                ((127L * 257 + 34) * 257 + 34) * 257 + 11 - 2147483647L);
        Due.same("just the modulus", Due.message("\nakhlz3", "").digest(true, true), 0);
        Due.same("one more", Due.message("\nAj96d", "").digest(true, true), 1);
        Due.same("one less", Due.message("\nalcvp6", "").digest(true, true), 2147483646);
    }
}
