/** Promises 8 to 10: checking an address, and what is counted in it. */
public final class CheckingTest {
    private static final int ALL = 0;
    private static final int NET = 1;
    private static final int HOST = 2;
    private static final int MAIL = 3;
    private static final int WITHIN = 4;
    private static final int KNOWN = 5;
    private static final int LEAD = 6;

    public static void main(String[] args) {
        noPolicy();
        orderAndQualifiers();
        lengths();
        hosts();
        mails();
        withins();
        knowns();
        leads();
        tenQueries();
        elevenByLead();
        tenStepsDown();
        withinItself();
        twoEmpties();
        emptiesOfMail();
        countsRunOnAndBeginAgain();
        refusedChecksKeepCounts();
        Due.end();
    }

    private static MailVerdicts withDomains(int count) {
        MailVerdicts x = new MailVerdicts();
        for (int i = 0; i < count; i++) {
            x.domain(-1, false);
        }
        return x;
    }

    private static void checked(MailVerdicts x, String what, int number, int d, int... due) {
        Due.same(what, x.check(number, d), due[0]);
        Due.same(what + ": queries", x.queries(), due[1]);
        Due.same(what + ": empties", x.empties(), due[2]);
    }

    private static void noPolicy() {
        MailVerdicts x = withDomains(1);
        checked(x, "no terms", 1, 0, 0, 0, 0);
        Due.same("no domain 1", x.check(1, 1), -1);
        Due.same("no domain -1", x.check(1, -1), -1);
        Due.same("no domain min", x.check(1, Integer.MIN_VALUE), -1);
        x.address(0, 1);
        x.exchanger(0, 0);
        checked(x, "addresses are no terms", 1, 0, 0, 0, 0);
    }

    private static void orderAndQualifiers() {
        for (int qualifier = 1; qualifier <= 4; qualifier++) {
            MailVerdicts x = withDomains(1);
            x.term(0, 5 - qualifier, NET, 8, 32);
            x.term(0, qualifier, ALL, 0, 0);
            x.term(0, 5 - qualifier, ALL, 0, 0);
            checked(x, "first match", 7, 0, qualifier, 0, 0);
            checked(x, "earlier match", 8, 0, 5 - qualifier, 0, 0);
        }
        MailVerdicts x = withDomains(1);
        x.term(0, 3, NET, 8, 32);
        checked(x, "no match", 7, 0, 1, 0, 0);
    }

    private static void lengths() {
        for (int length = 0; length <= 32; length++) {
            MailVerdicts x = withDomains(1);
            x.term(0, 2, NET, 0x5A5A5A5A, length);
            for (int bit = 0; bit < 32; bit++) {
                int other = 0x5A5A5A5A ^ (0x80000000 >>> bit);
                Due.same("length " + length + ", bit " + bit, x.check(other, 0), bit < length ? 1 : 2);
            }
            Due.same("length " + length + ", the same", x.check(0x5A5A5A5A, 0), 2);
        }
    }

    private static void hosts() {
        MailVerdicts x = withDomains(2);
        x.address(1, 0x0A000001);
        x.address(1, 0x0B000001);
        x.term(0, 2, HOST, 1, 8);
        x.term(0, 4, HOST, -1, 0);
        checked(x, "HOST first address", 0x0AFFFFFF, 0, 2, 1, 0);
        checked(x, "HOST second address", 0x0BFFFFFF, 0, 2, 1, 0);
        checked(x, "HOST misses, itself has none", 0x0CFFFFFF, 0, 1, 2, 1);
        x.address(0, 77);
        checked(x, "HOST of length 0", 0x0CFFFFFF, 0, 4, 2, 0);
    }

    private static void mails() {
        MailVerdicts x = withDomains(4);
        x.address(0, 5);
        x.address(2, 0x0A000001);
        x.address(3, 0x0B000001);
        x.exchanger(1, 2);
        x.exchanger(1, 3);
        x.term(0, 2, MAIL, 1, 32);
        checked(x, "MAIL first", 0x0A000001, 0, 2, 1, 0);
        checked(x, "MAIL second", 0x0B000001, 0, 2, 1, 0);
        checked(x, "MAIL misses", 0x0B000000, 0, 1, 1, 0);
        checked(x, "MAIL is not HOST", 5, 0, 1, 1, 0);
        x.exchanger(0, 0);
        x.term(0, 3, MAIL, -1, 31);
        checked(x, "MAIL of itself", 4, 0, 3, 2, 0);
    }

    private static void withins() {
        int[] due = {5, 1, 3, 1, 1};
        for (int inner = 1; inner <= 4; inner++) {
            MailVerdicts x = withDomains(2);
            x.term(0, 3, WITHIN, 1, 0);
            checked(x, "WITHIN none", 9, 0, 5, 1, 0);
            x.term(1, inner, ALL, 0, 0);
            checked(x, "WITHIN " + inner, 9, 0, due[inner], 1, 0);
            x.term(0, 4, ALL, 0, 0);
            checked(x, "WITHIN " + inner + ", then ALL", 9, 0, inner == 2 ? 3 : 4, 1, 0);
        }
        MailVerdicts x = withDomains(3);
        x.term(0, 2, WITHIN, 1, 0);
        x.term(0, 2, ALL, 0, 0);
        x.term(1, 2, WITHIN, 2, 0);
        x.term(1, 2, ALL, 0, 0);
        checked(x, "WRONG from below ends everything", 9, 0, 5, 2, 0);
    }

    private static void knowns() {
        MailVerdicts x = withDomains(2);
        x.term(0, 4, KNOWN, 1, 0);
        x.term(0, 3, KNOWN, -1, 0);
        checked(x, "KNOWN none", 9, 0, 1, 2, 2);
        x.address(0, 1);
        checked(x, "KNOWN itself", 9, 0, 3, 2, 1);
        x.address(1, 1);
        checked(x, "KNOWN other", 9, 0, 4, 1, 0);
    }

    private static void leads() {
        MailVerdicts x = withDomains(3);
        x.term(0, 0, LEAD, 1, 0);
        checked(x, "LEAD to none", 9, 0, 5, 1, 0);
        x.term(1, 0, LEAD, 2, 0);
        x.term(2, 4, NET, 9, 32);
        checked(x, "LEAD over LEAD", 9, 0, 4, 2, 0);
        checked(x, "LEAD over LEAD without a match", 8, 0, 1, 2, 0);
        x.term(0, 3, NET, 9, 32);
        checked(x, "a term behind LEAD is before it", 9, 0, 3, 0, 0);
        x.term(2, 2, WITHIN, 0, 0);
        checked(x, "a ring", 8, 0, 5, 10, 0);
    }

    private static void tenQueries() {
        MailVerdicts x = withDomains(2);
        x.address(0, 1);
        for (int i = 0; i < 7; i++) {
            x.term(0, 3, HOST, 0, 32);
        }
        x.term(0, 0, LEAD, 1, 0);
        x.term(1, 3, HOST, 0, 32);
        x.term(1, 3, MAIL, 0, 32);
        checked(x, "ten queries", 2, 0, 1, 10, 1);
        x.term(1, 3, NET, 3, 32);
        checked(x, "NET is no query", 3, 0, 3, 10, 1);
        x.term(1, 2, KNOWN, 0, 0);
        checked(x, "the eleventh query", 2, 0, 5, 10, 1);
        checked(x, "a match before it", 3, 0, 3, 10, 1);
    }

    private static void elevenByLead() {
        MailVerdicts x = withDomains(3);
        x.address(0, 1);
        for (int i = 0; i < 7; i++) {
            x.term(0, 3, HOST, 0, 32);
        }
        x.term(0, 0, LEAD, 1, 0);
        x.term(1, 3, HOST, 0, 32);
        x.term(1, 3, HOST, 0, 32);
        x.term(1, 0, LEAD, 2, 0);
        x.term(2, 2, ALL, 0, 0);
        checked(x, "the eleventh is a LEAD", 2, 0, 5, 10, 0);
        checked(x, "from the middle", 2, 1, 2, 3, 0);
    }

    private static void tenStepsDown() {
        for (int kind = WITHIN; kind <= LEAD; kind += LEAD - WITHIN) {
            MailVerdicts x = withDomains(12);
            for (int d = 0; d < 11; d++) {
                x.term(d, 2, kind, d + 1, 0);
            }
            x.term(11, 2, ALL, 0, 0);
            checked(x, "ten steps of kind " + kind, 1, 1, 2, 10, 0);
            checked(x, "eleven steps of kind " + kind, 1, 0, 5, 10, 0);
        }
    }

    private static void withinItself() {
        MailVerdicts x = withDomains(1);
        x.term(0, 2, WITHIN, -1, 0);
        checked(x, "WITHIN itself", 2, 0, 5, 10, 0);
        MailVerdicts y = withDomains(1);
        y.term(0, 2, LEAD, -1, 0);
        checked(y, "LEAD to itself", 2, 0, 5, 10, 0);
    }

    private static void twoEmpties() {
        MailVerdicts x = withDomains(2);
        x.term(0, 2, HOST, 1, 0);
        x.term(0, 2, KNOWN, 1, 0);
        checked(x, "two empties", 2, 0, 1, 2, 2);
        x.term(0, 2, MAIL, 1, 0);
        checked(x, "the third empty", 2, 0, 5, 3, 2);
        x.address(1, 9);
        checked(x, "HOST is no empty now", 2, 0, 2, 1, 0);
    }

    private static void emptiesOfMail() {
        MailVerdicts x = withDomains(4);
        x.term(0, 2, MAIL, 1, 32);
        checked(x, "no exchanger", 2, 0, 1, 1, 1);
        x.exchanger(1, 2);
        checked(x, "an exchanger without address", 2, 0, 1, 1, 1);
        x.exchanger(1, 2);
        checked(x, "twice", 2, 0, 1, 1, 2);
        x.exchanger(1, 3);
        checked(x, "thrice", 2, 0, 5, 1, 2);
        x.address(3, 2);
        checked(x, "the third matches", 2, 0, 2, 1, 2);
        x.term(0, 3, KNOWN, 2, 0);
        checked(x, "the third misses", 3, 0, 5, 2, 2);
        MailVerdicts y = withDomains(4);
        y.term(0, 2, MAIL, 1, 32);
        y.exchanger(1, 3);
        y.exchanger(1, 2);
        y.address(3, 2);
        checked(y, "none is counted behind a match", 2, 0, 2, 1, 0);
        checked(y, "but behind a miss", 1, 0, 1, 1, 1);
    }

    private static void countsRunOnAndBeginAgain() {
        MailVerdicts x = withDomains(4);
        x.term(0, 2, WITHIN, 1, 0);
        x.term(0, 2, HOST, 3, 0);
        x.term(0, 0, LEAD, 2, 0);
        x.term(1, 2, KNOWN, 3, 0);
        x.term(2, 2, MAIL, 3, 0);
        checked(x, "empties run on through WITHIN and LEAD", 2, 0, 5, 5, 2);
        checked(x, "and begin again", 2, 1, 1, 1, 1);
        checked(x, "and again", 2, 3, 0, 0, 0);
    }

    private static void refusedChecksKeepCounts() {
        MailVerdicts x = withDomains(2);
        x.term(0, 2, KNOWN, -1, 0);
        x.check(2, 0);
        x.check(2, 5);
        x.verdict(2, 1, 5);
        x.verdict(2, 5, 1);
        x.clear();
        Due.same("queries stay", x.queries(), 1);
        Due.same("empties stay", x.empties(), 1);
        x.verdict(2, 1, 0);
        Due.same("queries by verdict", x.queries(), 0);
        Due.same("empties by verdict", x.empties(), 0);
        x.verdict(2, 0, 1);
        Due.same("queries by verdict without a wish", x.queries(), 1);
        Due.same("empties by verdict without a wish", x.empties(), 1);
    }
}
