/** Promises 11 to 14: typing the message and the list, clearing them, and the fields. */
public final class MessageTest {
    public static void main(String[] args) {
        typing();
        listing();
        clearing();
        fieldCounts();
        illFormed();
        fieldLimit();
        Due.end();
    }

    private static void typing() {
        for (int c = 0; c <= Character.MAX_VALUE; c++) {
            boolean due = c == 10 || c >= 32 && c <= 126;
            Due.same("type(" + c + ")", new MailVerdicts().type((char) c) ? 1 : 0, due ? 1 : 0);
        }
        MailVerdicts x = new MailVerdicts();
        Due.typed(x, "\n");
        for (int i = 1; i < 240; i++) {
            Due.no("type(9)", x.type((char) 9));
            Due.yes("character " + i, x.type('x'));
        }
        Due.no("character 241", x.type('x'));
        Due.no("line end 241", x.type('\n'));
        Due.same("240 characters", x.length(false, false), 240);
    }

    private static void listing() {
        for (int c = 0; c <= Character.MAX_VALUE; c++) {
            boolean letter = c >= 65 && c <= 90 || c >= 97 && c <= 122;
            boolean due = letter || c >= 48 && c <= 57 || c == 45 || c == 58;
            Due.same("list(" + c + ")", new MailVerdicts().list((char) c) ? 1 : 0, due ? 1 : 0);
        }
        MailVerdicts x = Due.message("A:1\n", "");
        for (int i = 0; i < 59; i++) {
            Due.no("list(.)", x.list('.'));
            Due.yes("character " + i, x.list(':'));
        }
        Due.yes("character 60", x.list('a'));
        Due.no("character 61", x.list('a'));
        Due.no("colon 61", x.list(':'));
        Due.same("the name at the end takes", x.length(true, true), 4);
    }

    private static void clearing() {
        MailVerdicts x = Due.message("A:1\n\nbody", "a");
        x.domain(-1, false);
        x.key(0, 2, 1);
        x.wish(0, 1, 2, false, false);
        x.term(0, 2, 5, -1, 0);
        x.check(1, 0);
        x.sign(0, true, true, 0);
        x.sign(0, true, true, 1);
        Due.yes("one of both holds", x.holds(0) != x.holds(1));
        x.clear();
        Due.same("no fields", x.fields(), 0);
        Due.same("no message", x.length(true, true), 0);
        Due.no("no signature 0", x.holds(0));
        Due.no("no signature 1", x.holds(1));
        Due.same("queries stay", x.queries(), 1);
        Due.same("empties stay", x.empties(), 1);
        Due.same("domains stay", x.check(1, 0), 1);
        Due.same("wishes stay", x.verdict(1, 0, 0), 3);
        Due.typed(x, "A:1\n");
        Due.same("no list", x.length(true, true), 0);
        Due.same("signatures from the first", x.sign(0, true, true, 0), 1);
        Due.yes("keys stay", x.holds(0));
        x.clear();
        x.clear();
        Due.same("clear twice", x.length(false, false), 1);
        x.clear();
        Due.typed(x, "\n" + "y".repeat(239));
        Due.listed(x, "z".repeat(60));
        Due.no("full again", x.type('y'));
        Due.no("list full again", x.list('z'));
    }

    private static void counted(String text, int due) {
        Due.same("fields of <" + text.replace("\n", "\\n") + ">", Due.message(text, "").fields(), due);
    }

    private static void fieldCounts() {
        counted("", 0);
        counted("\n", 0);
        counted("\n\n\nno field", 0);
        counted("A:", 1);
        counted("A:\n", 1);
        counted("A:1\nB:2", 2);
        counted("A:1\nB:2\n\nC:3\n", 2);
        counted("A:1\n more\n  and more\nB:2\n", 2);
        counted("A:1\n \nB:2\n", 2);
        counted("A:1\n    ", 1);
        counted("A:1\n no colon: or one\n", 1);
        counted("a-Z09:x:y::", 1);
        counted("-:\n", 1);
        counted("A::\n", 1);
        counted("A:1\nA:1\na:1", 3);
        counted("A:1\n\nbody without a name\n\n", 1);
    }

    private static void illFormed() {
        counted("A", -1);
        counted("A\n", -1);
        counted(":", -1);
        counted(":x\n", -1);
        counted(" A:1\n", -1);
        counted(" ", -1);
        counted("A :1\n", -1);
        counted("A_b:1\n", -1);
        counted("A.b:1\n", -1);
        counted("A:1\nB\n", -1);
        counted("A:1\nB\n C:2", -1);
        counted("A:1\nB", -1);
        counted("A:1\n:\n\n", -1);
        counted("A\n:1", -1);
        counted("\n A", 0);
        MailVerdicts x = Due.message("A:1\nB", "a");
        Due.same("ill-formed: length", x.length(false, false), -1);
        Due.same("ill-formed: at", x.at(false, false, 0), -1);
        Due.same("ill-formed: digest", x.digest(false, false), -1);
        Due.typed(x, ":");
        Due.same("mended", x.fields(), 2);
        Due.same("mended: length", x.length(true, true), 4);
    }

    private static void fieldLimit() {
        String twelve = "A:\n".repeat(12);
        counted(twelve, 12);
        counted(twelve + " more\n", 12);
        counted(twelve + "\nB:\n", 12);
        counted(twelve + "B:", -1);
        counted(twelve + "B", -1);
        counted(twelve + "B:\n\n", -1);
    }
}
