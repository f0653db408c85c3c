/** The boundary cases that promises 11 to 14 name, each sentence with a test of its own. */
public final class MessageEdgesTest {
    private static final int[] NO_NAME_SIGNS = {32, 44, 46, 47, 59, 64, 91, 96, 123, 126};
    private static final int[] NAME_SIGNS = {45, 48, 57, 65, 90, 97, 122};

    public static void main(String[] args) {
        messageOf240();
        messageSigns();
        listOf60();
        listSigns();
        clearEmpties();
        clearLeavesDomains();
        clearLeavesCounts();
        clearGivesRoom();
        noFieldsOfAnEmptyMessage();
        firstLineIsEmpty();
        lastLineWithoutEnd();
        nameSigns();
        nameWithoutACharacter();
        nameWithoutAColon();
        lineGoesOn();
        lineGoesOnWithNothing();
        lineOfSpacesIsNotEmpty();
        twelveFields();
        bodyIsNoHead();
        Due.end();
    }

    private static void counted(String text, int due) {
        Due.same("fields of <" + text.replace("\n", "\\n") + ">", Due.message(text, "").fields(), due);
    }

    private static void messageOf240() {
        Due.about("Promise 11: false when it has 240");
        MailVerdicts x = Due.message("\n" + "x".repeat(238), "");
        Due.same("239 characters", x.length(false, false), 239);
        Due.yes("the 240th", x.type('y'));
        Due.text("240 characters", Due.form(x, false, false).substring(237), "xy\n");
        char[] more = {'z', ' ', '\n', 9, 200};
        for (char c : more) {
            Due.no("the 241st, " + (int) c, x.type(c));
        }
        Due.same("no more than 240", x.length(false, false), 240);
        Due.same("the last", x.at(false, false, 238), 'y');
        MailVerdicts y = Due.message("\n".repeat(239), "");
        Due.yes("the 240th, a line end", y.type('\n'));
        Due.no("the 241st, a line end", y.type('\n'));
    }

    private static void messageSigns() {
        Due.about("Promise 11: false when c is neither 32 .. 126 nor 10");
        int[] outside = {0, 9, 11, 13, 31, 127, 128, 160, 255, 256, 266, 288, 65535};
        MailVerdicts x = Due.message("\n", "");
        for (int c : outside) {
            Due.no("type(" + c + ")", x.type((char) c));
        }
        Due.same("nothing was typed", x.length(false, false), 1);
        int[] inside = {126, 33, 10, 32, 125};
        for (int c : inside) {
            Due.yes("type(" + c + ")", x.type((char) c));
        }
        Due.text("all were typed", Due.form(x, false, false), "~!\n }\n");
    }

    private static void listOf60() {
        Due.about("Promise 12: false when it has 60");
        MailVerdicts x = Due.message("A:1\nB:2\nBB:3\n", ":".repeat(58));
        Due.yes("the 59th", x.list('a'));
        Due.yes("the 60th", x.list(':'));
        char[] more = {'b', 'B', '0', '-', ':', ' ', 200};
        for (char c : more) {
            Due.no("the 61st, " + (int) c, x.list(c));
        }
        Due.text("no more than 60", Due.form(x, true, true), "a:1\n");
        String name = "n".repeat(60);
        Due.text("one name of 60", Due.form(Due.message(name + ":1", name), true, true), name + ":1\n");
    }

    private static void listSigns() {
        Due.about("Promise 12: false when c is no letter, digit, - or colon");
        int[] outside = {0, 10, 32, 44, 46, 47, 59, 64, 91, 95, 96, 123, 126, 127, 301, 321, 65535};
        MailVerdicts x = Due.message("A:1\n-09AZaz:2\n", "");
        for (int c : outside) {
            Due.no("list(" + c + ")", x.list((char) c));
        }
        int[] inside = {58, 45, 48, 57, 65, 90, 97, 122, 58, 65};
        for (int c : inside) {
            Due.yes("list(" + c + ")", x.list((char) c));
        }
        Due.text("only these were listed", Due.form(x, true, true), "-09azaz:2\na:1\n");
    }

    private static void clearEmpties() {
        Due.about("Promise 13: message and list are empty, and there are no signatures");
        MailVerdicts x = Due.message("A:1\n\nb", "a");
        x.domain(-1, false);
        x.key(0, 2, 1);
        for (int s = 0; s < 3; s++) {
            x.sign(0, true, true, s);
        }
        x.clear();
        Due.same("fields()", x.fields(), 0);
        Due.text("the plain form", Due.form(x, false, false), "\n");
        Due.text("the relaxed form", Due.form(x, true, true), "");
        for (int i = 0; i < 3; i++) {
            Due.no("holds(" + i + ")", x.holds(i));
        }
        Due.typed(x, "A:1\n");
        Due.text("the list is empty", Due.form(x, true, true), "");
        Due.same("the first signature", x.sign(0, true, true, 0), 1);
        Due.yes("holds(0)", x.holds(0));
        Due.no("an old signature", x.holds(1));
        MailVerdicts y = Due.message("ill-formed", "");
        y.clear();
        Due.same("an ill-formed message is gone", y.fields(), 0);
    }

    private static void clearLeavesDomains() {
        Due.about("Promise 13: domains stay");
        MailVerdicts x = new MailVerdicts();
        x.domain(-1, true);
        x.domain(0, false);
        x.domain(1, false);
        x.address(2, 5);
        x.exchanger(1, 2);
        x.term(1, 4, 2, 2, 32);
        x.term(1, 2, 3, -1, 31);
        x.term(1, 0, 6, 2, 0);
        x.term(2, 3, 0, 0, 0);
        x.key(1, 2, 1);
        x.wish(1, 1, 2, false, true);
        x.clear();
        Due.same("the next domain", x.domain(2, false), 3);
        Due.same("an address", x.check(5, 1), 4);
        Due.same("an exchanger", x.check(4, 1), 2);
        Due.same("a LEAD", x.check(7, 1), 3);
        Due.same("terms", x.term(1, 2, 0, 0, 0), 4);
        Due.same("the wish", x.verdict(7, 2, 2), 4);
        Due.same("a sender that need not be just it", x.verdict(4, 1, 3), 1);
        x.sign(1, true, true, 0);
        Due.yes("the key", x.holds(0));
        Due.same("a signer that must be just it", x.verdict(7, 2, 2), 4);
    }

    private static void clearLeavesCounts() {
        Due.about("Promise 13: what was counted stays");
        MailVerdicts x = Due.domains(1);
        x.term(0, 2, 5, 0, 0);
        x.term(0, 2, 2, 0, 0);
        x.check(1, 0);
        x.clear();
        Due.same("queries()", x.queries(), 2);
        Due.same("empties()", x.empties(), 2);
        x.clear();
        Due.same("queries() after clear twice", x.queries(), 2);
        Due.same("empties() after clear twice", x.empties(), 2);
    }

    private static void clearGivesRoom() {
        Due.about("Promise 13: after clear there is room for 240 and for 60 again");
        MailVerdicts x = Due.message("\n" + "x".repeat(200), "a".repeat(50));
        x.clear();
        Due.typed(x, "y".repeat(60));
        Due.typed(x, "\n");
        Due.listed(x, "b".repeat(11));
        Due.same("nothing of the old message is left", x.fields(), -1);
        MailVerdicts z = Due.message("\n" + "x".repeat(99), "");
        z.clear();
        Due.typed(z, "\n" + "z".repeat(239));
        Due.no("the 241st", z.type('z'));
        Due.same("240", z.length(false, false), 240);
    }

    private static void noFieldsOfAnEmptyMessage() {
        Due.about("Promise 14: 0 of an empty one");
        counted("", 0);
        MailVerdicts x = Due.message("", "a:b");
        Due.same("with a list", x.fields(), 0);
    }

    private static void firstLineIsEmpty() {
        Due.about("THE MESSAGE: the lines before the first empty line are the head");
        counted("\n", 0);
        counted("\n\n", 0);
        counted("\nA:1\n", 0);
        counted("\n no field\n", 0);
        counted("\n:\n", 0);
        counted("A:1\n\nB:2\n", 1);
        counted("A:1\n\n\nB:2\n", 1);
    }

    private static void lastLineWithoutEnd() {
        Due.about("THE MESSAGE: what stands behind the last 10, if that is something, is a line too");
        counted("A:1", 1);
        counted("A:1\n", 1);
        counted("A:1\nB:", 2);
        counted("A:1\nB", -1);
        counted("A:1\n x", 1);
        counted("A:1\n\nB", 1);
        MailVerdicts x = Due.message("A:1\n", "a");
        Due.text("nothing is no line", Due.form(x, false, true), "A:1\n");
        Due.text("nothing is no line of a body", Due.form(Due.message("\nx\n", ""), true, true), "x\n");
    }

    private static void nameSigns() {
        Due.about("THE MESSAGE: a NAME (one or more letters, digits or -)");
        for (int c : NAME_SIGNS) {
            counted((char) c + ":", 1);
            counted("A" + (char) c + ":", 1);
        }
        for (int c : NO_NAME_SIGNS) {
            counted((char) c + "A:", -1);
            counted("A" + (char) c + ":", -1);
            counted("A" + (char) c + "A:", -1);
        }
    }

    private static void nameWithoutACharacter() {
        Due.about("THE MESSAGE: a name of one or more characters");
        counted(":", -1);
        counted(":\n", -1);
        counted(": x\n", -1);
        counted("::\n", -1);
        counted("A:1\n:\n", -1);
        counted("A:1\n:x", -1);
        counted("A:\n", 1);
    }

    private static void nameWithoutAColon() {
        Due.about("THE MESSAGE: directly followed by a colon");
        counted("A", -1);
        counted("A\n", -1);
        counted("A\n:", -1);
        counted("A :", -1);
        counted("A x:", -1);
        counted("A;x", -1);
        counted("A::", 1);
        counted("A" + "a".repeat(238) + ":", 1);
        counted("A" + "a".repeat(239), -1);
    }

    private static void lineGoesOn() {
        Due.about("THE MESSAGE: a line that begins with a space goes on with the field before it");
        counted("A:1\n x", 1);
        counted("A:1\n x\n", 1);
        counted("A:1\n  x\n y\n z\n", 1);
        counted("A:1\n B:2\n", 1);
        counted("A:1\n B:2\nC:3\n D\n", 2);
    }

    private static void lineGoesOnWithNothing() {
        Due.about("THE MESSAGE: the field before it must be there");
        counted(" ", -1);
        counted(" \n", -1);
        counted(" x\n", -1);
        counted(" A:1\n", -1);
        counted(" A:1\nB:2\n", -1);
        counted("\n A:1\n", 0);
    }

    private static void lineOfSpacesIsNotEmpty() {
        Due.about("THE MESSAGE: only a line without a character is empty");
        counted("A:1\n \nB:2\n", 2);
        counted("A:1\n    \nB\n", -1);
        counted("A:1\n \n\nB\n", 1);
        counted("A:1\n \n", 1);
    }

    private static void twelveFields() {
        Due.about("THE MESSAGE: if there are more than 12 fields, the message is ill-formed");
        for (int count = 1; count <= 12; count++) {
            counted("A:\n".repeat(count), count);
            counted("A:\n".repeat(count - 1) + "A:", count);
            counted("A:\n".repeat(count) + "\nB:\nC:\n", count);
        }
        counted("A:\n x\n".repeat(12), 12);
        counted("A:\n".repeat(13), -1);
        counted("A:\n".repeat(12) + "A:", -1);
        counted("A:\n".repeat(13) + "\n", -1);
        counted("A:\n".repeat(60), -1);
        MailVerdicts x = Due.message("A:\n".repeat(13), "a");
        Due.same("length", x.length(true, true), -1);
        Due.same("at", x.at(true, true, 0), -1);
        Due.same("digest", x.digest(true, true), -1);
        Due.text("twelve can be taken", Due.form(Due.message("A:\n".repeat(12), "a:".repeat(13)), false, true),
                "A:\n".repeat(12));
    }

    private static void bodyIsNoHead() {
        Due.about("THE MESSAGE: only lines of the head must be fields");
        counted("A:1\n\n:\n x\nB\n", 1);
        counted("A:\n".repeat(12) + "\n" + "B:\n".repeat(13), 12);
        Due.text("nor are those of the body taken", Due.form(Due.message("\nA:1\n", "a"), false, false), "A:1\n");
    }
}
