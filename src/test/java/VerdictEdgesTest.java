/** The boundary cases that promise 20 names, each sentence with a test of its own. */
public final class VerdictEdgesTest {
    private static final int MIN = Integer.MIN_VALUE;
    private static final int MAX = Integer.MAX_VALUE;
    private static final int GOOD = 1;
    private static final int BAD = 2;

    public static void main(String[] args) {
        noSenderOrAuthor();
        noWish();
        wishOfTheOrganisation();
        ownWishGoesFirst();
        suffixAsAuthor();
        suffixIsNoOrganisationOfOthers();
        organisations();
        chainsOfTwelve();
        onlyPassCounts();
        senderMustBeJustIt();
        signerMustBeJustIt();
        strictByTheOrganisation();
        eachSignatureIsAsked();
        signatureOfAnIllFormedMessage();
        eitherIsEnough();
        checkingInAllCases();
        noCheckingWhenRefused();
        Due.end();
    }

    /** 0 is a suffix, 1 below it, 2 and 3 below 1, 4 below 0; each lets GOOD pass by one query. */
    private static MailVerdicts family() {
        MailVerdicts x = new MailVerdicts();
        int[] parents = {-1, 0, 1, 1, 0};
        for (int d = 0; d < parents.length; d++) {
            x.domain(parents[d], d == 0);
            x.address(d, GOOD);
            x.term(d, 2, 2, -1, 32);
        }
        return x;
    }

    private static void noSenderOrAuthor() {
        Due.about("Promise 20: -1 when there is no domain sender or author");
        MailVerdicts x = family();
        x.wish(1, 0, 0, false, false);
        int[] none = {MIN, -2, -1, 5, 6, 11, 12, MAX};
        for (int d : none) {
            Due.same("sender " + d, x.verdict(GOOD, d, 1), -1);
            Due.same("author " + d, x.verdict(GOOD, 1, d), -1);
            Due.same("both " + d, x.verdict(GOOD, d, d), -1);
        }
        Due.same("the last domain as sender", x.verdict(GOOD, 4, 1), 2);
        Due.same("the last domain as author", x.verdict(GOOD, 1, 4), 0);
    }

    private static void noWish() {
        Due.about("Promise 20: without either wish the answer is 0");
        MailVerdicts x = family();
        x.key(2, 2, 1);
        x.sign(2, true, true, 0);
        Due.yes("a signature holds", x.holds(0));
        Due.same("though address and signature fit", x.verdict(GOOD, 2, 2), 0);
        Due.same("nor for another address", x.verdict(BAD, 2, 2), 0);
        x.wish(3, 2, 2, false, false);
        x.wish(0, 2, 2, false, false);
        x.wish(4, 2, 2, false, false);
        Due.same("the wishes of others", x.verdict(GOOD, 2, 2), 0);
        Due.same("the wish of the sender", x.verdict(GOOD, 3, 2), 0);
    }

    private static void wishOfTheOrganisation() {
        Due.about("Promise 20: the wish of its organisation, for domains below");
        for (int own = 0; own <= 2; own++) {
            for (int below = 0; below <= 2; below++) {
                MailVerdicts x = family();
                x.wish(1, own, below, false, false);
                Due.same("of the organisation itself", x.verdict(BAD, 1, 1), 2 + own);
                Due.same("of a domain below", x.verdict(BAD, 2, 2), 2 + below);
                Due.same("of another organisation", x.verdict(BAD, 4, 4), 0);
            }
        }
    }

    private static void ownWishGoesFirst() {
        Due.about("Promise 20: the wish is that of author or, if it has none, that of its organisation");
        MailVerdicts x = family();
        x.wish(1, 2, 2, true, true);
        Due.same("before it has one", x.verdict(GOOD, 1, 2), 4);
        x.wish(2, 0, 1, false, false);
        Due.same("it fits by its own wish", x.verdict(GOOD, 1, 2), 1);
        Due.same("for itself by its own wish", x.verdict(BAD, 1, 2), 2);
        Due.same("the other domain below has none", x.verdict(BAD, 3, 3), 4);
    }

    private static void suffixAsAuthor() {
        Due.about("Promise 20: a suffix is its own organisation, so its wish is for itself");
        MailVerdicts x = family();
        Due.same("no wish", x.verdict(GOOD, 0, 0), 0);
        x.wish(0, 1, 2, false, false);
        Due.same("for itself", x.verdict(BAD, 0, 0), 3);
        Due.same("it fits itself", x.verdict(GOOD, 0, 0), 1);
        Due.same("one below has another organisation", x.verdict(GOOD, 1, 0), 3);
        MailVerdicts y = new MailVerdicts();
        y.domain(-1, false);
        y.domain(0, true);
        y.term(0, 2, 0, 0, 0);
        y.wish(0, 1, 1, false, false);
        Due.same("the parent's wish is not that of a suffix", y.verdict(BAD, 0, 1), 0);
        y.wish(1, 1, 1, false, false);
        Due.same("nor has it the parent's organisation", y.verdict(BAD, 0, 1), 3);
    }

    private static void suffixIsNoOrganisationOfOthers() {
        Due.about("Promise 20: the wish of a suffix is not for those below it");
        MailVerdicts x = family();
        x.wish(0, 1, 2, false, false);
        for (int author = 1; author <= 4; author++) {
            Due.same("author " + author, x.verdict(GOOD, author, author), 0);
        }
        x.wish(4, 1, 2, false, false);
        Due.same("the suffix does not fit", x.verdict(GOOD, 0, 4), 3);
        Due.same("nor another below the suffix", x.verdict(GOOD, 1, 4), 3);
    }

    private static void sameOrganisation(int[] parents, boolean[] suffixes, int[] due) {
        for (int author = 0; author < parents.length; author++) {
            for (int sender = 0; sender < parents.length; sender++) {
                MailVerdicts x = new MailVerdicts();
                for (int d = 0; d < parents.length; d++) {
                    x.domain(parents[d], suffixes[d]);
                    x.term(d, 2, 0, 0, 0);
                }
                x.wish(author, 0, 0, false, false);
                int want = due[author] == due[sender] ? 1 : 2;
                Due.same("sender " + sender + ", author " + author, x.verdict(BAD, sender, author), want);
            }
        }
    }

    private static void organisations() {
        Due.about("THE ORGANISATION: the last one met before a suffix, or a domain without a parent (which counts)");
        sameOrganisation(new int[] {-1, 0, 1, -1, 3}, new boolean[] {false, false, false, true, true},
                new int[] {0, 0, 0, 3, 4});
        sameOrganisation(new int[] {-1, 0, 1, 2, 3}, new boolean[] {false, false, true, false, false},
                new int[] {0, 0, 2, 3, 3});
        sameOrganisation(new int[] {-1, 0, 0, 1, 2}, new boolean[] {true, false, false, false, false},
                new int[] {0, 1, 2, 1, 2});
    }

    private static void chainsOfTwelve() {
        Due.about("THE ORGANISATION: going from it to its parent, to that one's parent and so on");
        for (int suffix = -1; suffix < 11; suffix++) {
            MailVerdicts x = new MailVerdicts();
            for (int d = 0; d < 12; d++) {
                x.domain(d - 1, d == suffix);
                x.term(d, 2, 0, 0, 0);
            }
            x.wish(11, 0, 0, false, false);
            for (int sender = 0; sender < 12; sender++) {
                int want = sender > suffix ? 1 : 2;
                Due.same("suffix " + suffix + ", sender " + sender, x.verdict(BAD, sender, 11), want);
            }
        }
    }

    private static void onlyPassCounts() {
        Due.about("Promise 20: 1 if checking the address against sender gives PASS");
        for (int qualifier = 1; qualifier <= 4; qualifier++) {
            MailVerdicts x = Due.domains(1);
            x.wish(0, 2, 2, false, false);
            x.term(0, qualifier, 0, 0, 0);
            Due.same("result " + qualifier, x.verdict(BAD, 0, 0), qualifier == 2 ? 1 : 4);
        }
        MailVerdicts x = Due.domains(1);
        x.wish(0, 2, 2, false, false);
        Due.same("NONE", x.verdict(BAD, 0, 0), 4);
        x.term(0, 2, 4, 0, 0);
        Due.same("WRONG", x.verdict(BAD, 0, 0), 4);
    }

    private static void senderMustBeJustIt() {
        Due.about("Promise 20: sender must be just the author's domain, or have the same organisation");
        for (int sender = 0; sender < 5; sender++) {
            boolean same = sender == 2;
            boolean near = sender >= 1 && sender <= 3;
            for (int signer = 0; signer < 2; signer++) {
                MailVerdicts x = family();
                x.wish(2, 1, 0, true, signer == 1);
                Due.same("strict, sender " + sender, x.verdict(GOOD, sender, 2), same ? 1 : 3);
                x.wish(2, 1, 0, false, signer == 1);
                Due.same("not strict, sender " + sender, x.verdict(GOOD, sender, 2), near ? 1 : 3);
            }
        }
    }

    private static void signerMustBeJustIt() {
        Due.about("Promise 20: signer must be just the author's domain, or have the same organisation");
        for (int signer = 0; signer < 5; signer++) {
            boolean same = signer == 2;
            boolean near = signer >= 1 && signer <= 3;
            for (int sender = 0; sender < 2; sender++) {
                MailVerdicts x = family();
                x.key(signer, 2, 1);
                x.sign(signer, true, true, 0);
                x.wish(2, 1, 0, sender == 1, true);
                Due.same("strict, signer " + signer, x.verdict(BAD, 2, 2), same ? 1 : 3);
                x.wish(2, 1, 0, sender == 1, false);
                Due.same("not strict, signer " + signer, x.verdict(BAD, 2, 2), near ? 1 : 3);
            }
        }
    }

    private static void strictByTheOrganisation() {
        Due.about("Promise 20: just the author's domain, not the one that has the wish");
        MailVerdicts x = family();
        x.wish(1, 0, 2, true, true);
        Due.same("the author's domain", x.verdict(GOOD, 2, 2), 1);
        Due.same("the one that has the wish", x.verdict(GOOD, 1, 2), 4);
        x.key(1, 2, 1);
        x.key(2, 2, 1);
        x.sign(1, true, true, 0);
        Due.same("signed by the one that has the wish", x.verdict(BAD, 1, 2), 4);
        x.sign(2, true, true, 0);
        Due.same("signed by the author's domain", x.verdict(BAD, 1, 2), 1);
    }

    private static void eachSignatureIsAsked() {
        Due.about("Promise 20: if a signature holds whose domain fits author");
        for (int place = 0; place < 3; place++) {
            MailVerdicts x = family();
            x.wish(2, 2, 0, false, false);
            x.key(2, 2, 1);
            x.key(4, 2, 1);
            for (int i = 0; i < 3; i++) {
                x.sign(2, true, true, i == place ? 0 : 1);
            }
            Due.same("the one at " + place + " holds", x.verdict(BAD, 2, 2), 1);
            x.clear();
            for (int i = 0; i < 3; i++) {
                x.sign(i == place ? 2 : 4, true, true, i == place ? 1 : 0);
            }
            Due.same("the one at " + place + " fits but does not hold", x.verdict(BAD, 2, 2), 4);
            x.clear();
            Due.same("none is there", x.verdict(BAD, 2, 2), 4);
        }
    }

    private static void signatureOfAnIllFormedMessage() {
        Due.about("Promise 20: no signature holds for an ill-formed message");
        MailVerdicts x = family();
        x.wish(2, 2, 0, false, false);
        x.key(2, 2, 1);
        x.sign(2, true, true, 0);
        x.sign(2, true, true, 1);
        Due.typed(x, "A");
        Due.same("ill-formed", x.verdict(BAD, 2, 2), 4);
        Due.same("by the address", x.verdict(GOOD, 2, 2), 1);
        Due.typed(x, ":");
        Due.same("well-formed", x.verdict(BAD, 2, 2), 1);
    }

    private static void eitherIsEnough() {
        Due.about("Promise 20: by the address or by a signature");
        MailVerdicts x = family();
        x.wish(2, 2, 0, true, true);
        x.key(2, 2, 1);
        x.sign(2, true, true, 0);
        Due.same("a signature, the sender does not fit", x.verdict(GOOD, 4, 2), 1);
        Due.same("a signature, the address is bad", x.verdict(BAD, 2, 2), 1);
        Due.same("both", x.verdict(GOOD, 2, 2), 1);
        x.clear();
        Due.same("the address alone", x.verdict(GOOD, 2, 2), 1);
        Due.same("neither", x.verdict(GOOD, 4, 2), 4);
    }

    private static void judged(MailVerdicts x, String what, int sender, int author, int... due) {
        Due.same(what, x.verdict(BAD, sender, author), due[0]);
        Due.same(what + ": queries", x.queries(), due[1]);
        Due.same(what + ": empties", x.empties(), due[2]);
    }

    private static void checkingInAllCases() {
        Due.about("Promise 20: the checking is made in all cases but -1");
        MailVerdicts x = new MailVerdicts();
        x.domain(-1, false);
        x.domain(0, false);
        x.domain(-1, false);
        x.term(0, 2, 5, 2, 0);
        x.term(1, 2, 5, 2, 0);
        x.term(1, 2, 2, 2, 0);
        judged(x, "without a wish", 1, 1, 0, 2, 2);
        x.wish(0, 1, 0, true, true);
        judged(x, "a sender that does not fit", 0, 1, 2, 1, 1);
        x.key(1, 2, 1);
        x.sign(1, true, true, 0);
        judged(x, "believed by a signature", 1, 1, 1, 2, 2);
        judged(x, "a sender without a policy", 2, 1, 1, 0, 0);
        judged(x, "the sender is checked, not the author", 0, 2, 0, 1, 1);
    }

    private static void noCheckingWhenRefused() {
        Due.about("Promise 20: no checking at -1");
        MailVerdicts x = Due.domains(2);
        x.term(0, 2, 5, 0, 0);
        x.check(BAD, 0);
        judged(x, "no author", 1, 2, -1, 1, 1);
        judged(x, "no sender", 2, 1, -1, 1, 1);
        judged(x, "both are there", 1, 0, 0, 0, 0);
    }
}
