/** Promise 20: the verdict. Domain 0 is a suffix; 1 is below it, 2 and 3 below 1, 4 below 0. */
public final class VerdictTest {
    private static final int GOOD = 1;
    private static final int BAD = 2;

    public static void main(String[] args) {
        refused();
        withoutWish();
        wishOfItself();
        wishOfOrganisation();
        onlyOrganisationIsAsked();
        fittingSender();
        fittingSigner();
        otherResultsThanPass();
        organisations();
        Due.end();
    }

    private static MailVerdicts family() {
        MailVerdicts x = new MailVerdicts();
        int[] parents = {-1, 0, 1, 1, 0};
        for (int d = 0; d < parents.length; d++) {
            x.domain(parents[d], d == 0);
            x.term(d, 2, 1, GOOD, 32);
        }
        return x;
    }

    private static void refused() {
        MailVerdicts x = family();
        x.wish(0, 0, 0, false, false);
        Due.same("no sender", x.verdict(GOOD, 5, 0), -1);
        Due.same("no author", x.verdict(GOOD, 0, 5), -1);
        Due.same("sender -1", x.verdict(GOOD, -1, 0), -1);
        Due.same("author -1", x.verdict(GOOD, 0, -1), -1);
    }

    private static void withoutWish() {
        MailVerdicts x = family();
        Due.same("no wish", x.verdict(GOOD, 1, 1), 0);
        Due.same("no wish, bad", x.verdict(BAD, 1, 1), 0);
        x.wish(2, 2, 2, false, false);
        x.wish(0, 2, 2, false, false);
        Due.same("neither its own nor its organisation's", x.verdict(GOOD, 2, 3), 0);
        Due.same("a suffix is not the organisation of others", x.verdict(GOOD, 4, 4), 0);
    }

    private static void wishOfItself() {
        for (int own = 0; own <= 2; own++) {
            MailVerdicts x = family();
            x.wish(1, own, (own + 1) % 3, false, false);
            Due.same("believed", x.verdict(GOOD, 1, 1), 1);
            Due.same("own wish", x.verdict(BAD, 1, 1), 2 + own);
            Due.same("below it", x.verdict(BAD, 1, 2), 2 + (own + 1) % 3);
        }
    }

    private static void wishOfOrganisation() {
        MailVerdicts x = family();
        x.wish(1, 0, 2, true, true);
        Due.same("believed by the organisation's wish", x.verdict(GOOD, 2, 2), 1);
        Due.same("strict by the organisation's wish", x.verdict(GOOD, 1, 2), 4);
        x.wish(2, 1, 0, false, false);
        Due.same("its own wish goes before", x.verdict(GOOD, 1, 2), 1);
        Due.same("its own wish for itself", x.verdict(BAD, 2, 2), 3);
        Due.same("the other one still by the organisation", x.verdict(BAD, 3, 3), 4);
    }

    private static void onlyOrganisationIsAsked() {
        MailVerdicts x = new MailVerdicts();
        for (int d = 0; d < 4; d++) {
            x.domain(d - 1, false);
        }
        x.wish(2, 2, 2, false, false);
        Due.same("the parent is not asked", x.verdict(BAD, 3, 3), 0);
        x.wish(0, 1, 0, false, false);
        Due.same("the organisation is", x.verdict(BAD, 3, 3), 2);
        Due.same("itself the organisation", x.verdict(BAD, 3, 0), 3);
    }

    private static void fittingSender() {
        MailVerdicts x = family();
        x.wish(2, 2, 0, false, true);
        Due.same("the same", x.verdict(GOOD, 2, 2), 1);
        Due.same("its parent", x.verdict(GOOD, 1, 2), 1);
        Due.same("its sibling", x.verdict(GOOD, 3, 2), 1);
        Due.same("another organisation", x.verdict(GOOD, 4, 2), 4);
        Due.same("the suffix", x.verdict(GOOD, 0, 2), 4);
        x.wish(2, 2, 0, true, false);
        Due.same("strict: the same", x.verdict(GOOD, 2, 2), 1);
        Due.same("strict: its parent", x.verdict(GOOD, 1, 2), 4);
        Due.same("strict: its sibling", x.verdict(GOOD, 3, 2), 4);
    }

    private static int verdictBySigner(int signer, boolean strict) {
        MailVerdicts x = family();
        x.wish(2, 1, 0, !strict, strict);
        x.sign(4, true, true, 1);
        x.sign(signer, true, true, 0);
        Due.same("no key", x.verdict(BAD, 2, 2), 3);
        x.key(4, 2, 1);
        x.key(signer, 2, 1);
        return x.verdict(BAD, 2, 2);
    }

    private static void fittingSigner() {
        Due.same("the same", verdictBySigner(2, false), 1);
        Due.same("its parent", verdictBySigner(1, false), 1);
        Due.same("its sibling", verdictBySigner(3, false), 1);
        Due.same("another organisation", verdictBySigner(4, false), 3);
        Due.same("the suffix", verdictBySigner(0, false), 3);
        Due.same("strict: the same", verdictBySigner(2, true), 1);
        Due.same("strict: its parent", verdictBySigner(1, true), 3);
        Due.same("strict: its sibling", verdictBySigner(3, true), 3);
        MailVerdicts x = family();
        x.wish(2, 1, 0, false, false);
        x.key(2, 2, 1);
        x.sign(2, true, true, 1);
        Due.same("a signature that does not hold", x.verdict(BAD, 2, 2), 3);
        x.sign(2, true, true, 0);
        Due.same("a later one that does", x.verdict(BAD, 4, 2), 1);
        x.clear();
        Due.same("none any more", x.verdict(BAD, 4, 2), 3);
    }

    private static void otherResultsThanPass() {
        for (int qualifier = 1; qualifier <= 4; qualifier++) {
            MailVerdicts x = new MailVerdicts();
            x.domain(-1, false);
            x.wish(0, 0, 0, false, false);
            Due.same("no policy", x.verdict(BAD, 0, 0), 2);
            x.term(0, qualifier, 0, 0, 0);
            Due.same("result " + qualifier, x.verdict(BAD, 0, 0), qualifier == 2 ? 1 : 2);
        }
        MailVerdicts x = new MailVerdicts();
        x.domain(-1, false);
        x.wish(0, 0, 0, false, false);
        x.term(0, 2, 4, -1, 0);
        Due.same("WRONG", x.verdict(BAD, 0, 0), 2);
        Due.same("queries", x.queries(), 10);
    }

    /** 0 <- 1 suffix <- 2 <- 3 suffix <- 4 <- 5, and 6 <- 7 without any suffix. */
    private static void organisations() {
        int[] parents = {-1, 0, 1, 2, 3, 4, -1, 6};
        int[] due = {0, 1, 2, 3, 4, 4, 6, 6};
        for (int author = 0; author < parents.length; author++) {
            for (int sender = 0; sender < parents.length; sender++) {
                MailVerdicts x = new MailVerdicts();
                for (int d = 0; d < parents.length; d++) {
                    x.domain(parents[d], d == 1 || d == 3);
                    x.term(d, 2, 0, 0, 0);
                }
                x.wish(author, 0, 0, false, false);
                int want = due[author] == due[sender] ? 1 : 2;
                Due.same("sender " + sender + ", author " + author, x.verdict(BAD, sender, author), want);
            }
        }
    }
}
