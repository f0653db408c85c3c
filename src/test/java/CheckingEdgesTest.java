/** The boundary cases of checking (promises 8 to 10), each sentence with a test of its own. */
public final class CheckingEdgesTest {
    private static final int MIN = Integer.MIN_VALUE;
    private static final int MAX = Integer.MAX_VALUE;
    private static final int ALL = 0;
    private static final int NET = 1;
    private static final int HOST = 2;
    private static final int MAIL = 3;
    private static final int WITHIN = 4;
    private static final int KNOWN = 5;
    private static final int LEAD = 6;

    private static final int NONE = 0;
    private static final int NEUTRAL = 1;
    private static final int PASS = 2;
    private static final int FAIL = 3;
    private static final int SOFT = 4;
    private static final int WRONG = 5;

    public static void main(String[] args) {
        noDomain();
        noTerms();
        noLead();
        leadAlone();
        leadToNone();
        leadGivesItsResult();
        leadIsLastWhereverItStands();
        noBits();
        allBits();
        noAddressIsNoMatch();
        targetIsTheOwner();
        withinByResult();
        withinNoneOrWrong();
        knownLooksAtAddressesAlone();
        countedBeforeLookedAt();
        notCounted();
        tenQueriesByTerms();
        tenQueriesThenLead();
        tenQueriesThenEachKind();
        ringsEnd();
        twoEmptiesOfEachKind();
        emptyExchangers();
        emptyExchangersBehindAMatch();
        countsRunOn();
        wrongEndsEverything();
        noCheckingSoFar();
        countsOfTheLatest();
        Due.end();
    }

    private static void checked(MailVerdicts x, String what, int number, int d, int... due) {
        Due.same(what, x.check(number, d), due[0]);
        Due.same(what + ": queries", x.queries(), due[1]);
        Due.same(what + ": empties", x.empties(), due[2]);
    }

    private static void noDomain() {
        Due.about("Promise 8: -1 when there is no domain d");
        MailVerdicts x = Due.domains(2);
        int[] none = {MIN, -2, -1, 2, 3, 11, 12, MAX};
        for (int d : none) {
            Due.same("check(1, " + d + ")", x.check(1, d), -1);
        }
        Due.same("check(1, 1)", x.check(1, 1), NONE);
    }

    private static void noTerms() {
        Due.about("CHECKING: if the policy of the domain has no terms, NONE");
        MailVerdicts x = Due.domains(2);
        x.term(1, PASS, ALL, 0, 0);
        checked(x, "no terms", 1, 0, NONE, 0, 0);
        x.term(0, FAIL, ALL, 0, 0);
        checked(x, "a term", 1, 0, FAIL, 0, 0);
    }

    private static void noLead() {
        Due.about("CHECKING: if none matches, NEUTRAL without a LEAD");
        MailVerdicts x = Due.domains(1);
        for (int i = 1; i <= 8; i++) {
            x.term(0, PASS, NET, i, 32);
            checked(x, i + " terms", 0, 0, NEUTRAL, 0, 0);
            checked(x, "the last of " + i + " terms", i, 0, PASS, 0, 0);
        }
    }

    private static void leadAlone() {
        Due.about("CHECKING: a policy of a LEAD alone has a term");
        MailVerdicts x = Due.domains(2);
        x.term(0, 0, LEAD, 1, 0);
        x.term(1, SOFT, NET, 1, 32);
        checked(x, "a match there", 1, 0, SOFT, 1, 0);
        checked(x, "no match there", 2, 0, NEUTRAL, 1, 0);
    }

    private static void leadToNone() {
        Due.about("CHECKING: with a LEAD, WRONG if the result there is NONE");
        MailVerdicts x = Due.domains(3);
        x.term(0, 0, LEAD, 1, 0);
        checked(x, "to a domain without terms", 1, 0, WRONG, 1, 0);
        x.term(1, 0, LEAD, 2, 0);
        checked(x, "over a LEAD", 1, 0, WRONG, 2, 0);
        x.term(0, PASS, NET, 1, 32);
        checked(x, "not followed behind a match", 1, 0, PASS, 0, 0);
        checked(x, "NONE itself stays NONE", 1, 2, NONE, 0, 0);
    }

    private static void leadGivesItsResult() {
        Due.about("CHECKING: with a LEAD, the result of checking against its domain");
        for (int result = NEUTRAL; result <= SOFT; result++) {
            MailVerdicts x = Due.domains(2);
            x.term(0, 0, LEAD, 1, 0);
            x.term(1, result, ALL, 0, 0);
            checked(x, "result " + result, 1, 0, result, 1, 0);
        }
    }

    private static void leadIsLastWhereverItStands() {
        Due.about("CHECKING: the terms but the LEAD are gone through in order");
        MailVerdicts x = Due.domains(2);
        x.term(1, FAIL, ALL, 0, 0);
        x.term(0, SOFT, NET, 1, 32);
        x.term(0, 0, LEAD, 1, 0);
        x.term(0, PASS, NET, 2, 32);
        checked(x, "before the LEAD", 1, 0, SOFT, 0, 0);
        checked(x, "behind the LEAD", 2, 0, PASS, 0, 0);
        checked(x, "neither", 3, 0, FAIL, 1, 0);
    }

    /** Domain 1 has the address 5 and is its own exchanger. */
    private static MailVerdicts withTermOf(int kind, int length) {
        MailVerdicts x = Due.domains(2);
        x.address(1, 5);
        x.exchanger(1, 1);
        x.term(0, PASS, kind, kind == NET ? 5 : 1, length);
        return x;
    }

    private static void noBits() {
        Due.about("CHECKING: the first 0 bits are the same for all");
        int[] numbers = {MIN, -1, 0, 4, 5, MAX};
        for (int kind = NET; kind <= MAIL; kind++) {
            MailVerdicts x = withTermOf(kind, 0);
            for (int number : numbers) {
                Due.same("kind " + kind + ", " + number, x.check(number, 0), PASS);
            }
        }
    }

    private static void allBits() {
        Due.about("CHECKING: the first LENGTH bits (the highest)");
        for (int kind = NET; kind <= MAIL; kind++) {
            MailVerdicts whole = withTermOf(kind, 32);
            MailVerdicts butOne = withTermOf(kind, 31);
            MailVerdicts one = withTermOf(kind, 1);
            Due.same("32: the same", whole.check(5, 0), PASS);
            Due.same("32: the lowest differs", whole.check(4, 0), NEUTRAL);
            Due.same("32: the highest differs", whole.check(MIN | 5, 0), NEUTRAL);
            Due.same("31: the lowest differs", butOne.check(4, 0), PASS);
            Due.same("31: the next differs", butOne.check(7, 0), NEUTRAL);
            Due.same("1: all others differ", one.check(MAX - 5, 0), PASS);
            Due.same("1: the highest differs", one.check(MIN | 5, 0), NEUTRAL);
        }
    }

    private static void noAddressIsNoMatch() {
        Due.about("CHECKING: HOST and MAIL of no address match nothing, for no bits either");
        MailVerdicts x = Due.domains(3);
        x.term(0, PASS, HOST, 1, 0);
        checked(x, "HOST", 0, 0, NEUTRAL, 1, 1);
        x.term(2, PASS, MAIL, 1, 0);
        checked(x, "MAIL without an exchanger", 0, 2, NEUTRAL, 1, 1);
        x.exchanger(1, 1);
        checked(x, "MAIL without an address", 0, 2, NEUTRAL, 1, 1);
    }

    private static void targetIsTheOwner() {
        Due.about("CHECKING: t is the domain itself that has the policy when it is -1");
        for (int kind = HOST; kind <= KNOWN; kind++) {
            if (kind != WITHIN) {
                MailVerdicts x = Due.domains(2);
                x.address(1, 5);
                x.exchanger(1, 1);
                x.term(1, PASS, kind, -1, 32);
                x.term(0, PASS, WITHIN, 1, 0);
                x.term(0, FAIL, ALL, 0, 0);
                checked(x, "kind " + kind + " through WITHIN", 5, 0, PASS, 2, 0);
                x.address(0, 6);
                checked(x, "kind " + kind + ", not of the first", 6, 0, kind == KNOWN ? PASS : FAIL, 2, 0);
            }
        }
    }

    private static void withinByResult() {
        Due.about("CHECKING: WITHIN matches at PASS, doesn't at NEUTRAL, FAIL and SOFT");
        for (int inner = NEUTRAL; inner <= SOFT; inner++) {
            for (int outer = NEUTRAL; outer <= SOFT; outer++) {
                MailVerdicts x = Due.domains(2);
                x.term(0, outer, WITHIN, 1, 0);
                x.term(0, SOFT, ALL, 0, 0);
                x.term(1, inner, ALL, 0, 0);
                checked(x, inner + " within", 1, 0, inner == PASS ? outer : SOFT, 1, 0);
            }
        }
        MailVerdicts x = Due.domains(2);
        x.term(0, FAIL, WITHIN, 1, 0);
        x.term(1, PASS, NET, 1, 32);
        checked(x, "NEUTRAL for want of a match", 2, 0, NEUTRAL, 1, 0);
    }

    private static void withinNoneOrWrong() {
        Due.about("CHECKING: at NONE and WRONG within, the whole result is WRONG");
        MailVerdicts x = Due.domains(3);
        x.term(0, PASS, WITHIN, 1, 0);
        x.term(0, PASS, ALL, 0, 0);
        checked(x, "NONE", 1, 0, WRONG, 1, 0);
        x.term(1, 0, LEAD, 2, 0);
        checked(x, "WRONG", 1, 0, WRONG, 2, 0);
    }

    private static void knownLooksAtAddressesAlone() {
        Due.about("CHECKING: KNOWN matches if t has an address");
        MailVerdicts x = Due.domains(2);
        x.term(0, SOFT, KNOWN, 1, 0);
        x.exchanger(1, 0);
        checked(x, "none", 0, 0, NEUTRAL, 1, 1);
        x.address(1, 0);
        checked(x, "one, another than that which is checked", 9, 0, SOFT, 1, 0);
    }

    private static void countedBeforeLookedAt() {
        Due.about("QUERIES: each HOST, MAIL, WITHIN, KNOWN that is come to counts 1; a LEAD that is followed");
        MailVerdicts x = Due.domains(2);
        x.address(1, 5);
        x.exchanger(1, 1);
        x.term(1, FAIL, NET, 4, 32);
        x.term(0, PASS, HOST, 1, 32);
        x.term(0, PASS, MAIL, 1, 32);
        x.term(0, PASS, WITHIN, 1, 0);
        x.term(0, 0, LEAD, 1, 0);
        checked(x, "a match of the first", 5, 0, PASS, 1, 0);
        checked(x, "no match", 6, 0, NEUTRAL, 4, 0);
        x.term(0, PASS, KNOWN, 1, 0);
        checked(x, "a match of the last", 6, 0, PASS, 4, 0);
    }

    private static void notCounted() {
        Due.about("QUERIES: ALL and NET, a LEAD that is not followed and what is not come to count nothing");
        MailVerdicts x = Due.domains(1);
        x.term(0, 0, LEAD, 0, 0);
        x.term(0, PASS, NET, 1, 32);
        x.term(0, PASS, ALL, 0, 0);
        x.term(0, PASS, KNOWN, 0, 0);
        checked(x, "NET", 1, 0, PASS, 0, 0);
        checked(x, "ALL", 2, 0, PASS, 0, 0);
    }

    /** Domain 0 makes 8 queries by going within domain 1, which has 7 that match nothing. */
    private static MailVerdicts eightQueries() {
        MailVerdicts x = Due.domains(4);
        for (int d = 0; d < 3; d++) {
            x.address(d, 1);
            x.exchanger(d, d);
        }
        for (int i = 0; i < 7; i++) {
            x.term(1, FAIL, HOST, 1, 32);
        }
        x.term(0, FAIL, WITHIN, 1, 0);
        x.term(2, SOFT, ALL, 0, 0);
        checked(x, "eight queries", 9, 0, NEUTRAL, 8, 0);
        return x;
    }

    private static void tenQueriesByTerms() {
        Due.about("QUERIES: if 10 are counted already, the count stays and the whole result is WRONG");
        MailVerdicts x = eightQueries();
        x.term(0, FAIL, HOST, 0, 32);
        checked(x, "nine", 9, 0, NEUTRAL, 9, 0);
        x.term(0, FAIL, MAIL, 0, 32);
        checked(x, "ten", 9, 0, NEUTRAL, 10, 0);
        x.term(0, PASS, NET, 8, 32);
        checked(x, "NET behind ten", 8, 0, PASS, 10, 0);
        x.term(0, PASS, HOST, 0, 0);
        checked(x, "the eleventh, though it would match", 9, 0, WRONG, 10, 0);
        checked(x, "a match before it", 8, 0, PASS, 10, 0);
    }

    private static void tenQueriesThenLead() {
        Due.about("QUERIES: a LEAD that would be the eleventh is WRONG, the tenth is followed");
        MailVerdicts x = eightQueries();
        x.term(0, FAIL, HOST, 0, 32);
        x.term(0, 0, LEAD, 2, 0);
        checked(x, "the tenth", 9, 0, SOFT, 10, 0);
        x.term(0, FAIL, HOST, 0, 32);
        checked(x, "the eleventh", 9, 0, WRONG, 10, 0);
    }

    private static void tenQueriesThenEachKind() {
        Due.about("QUERIES: the eleventh of each kind is not looked at");
        for (int kind = HOST; kind <= KNOWN; kind++) {
            MailVerdicts x = eightQueries();
            x.term(0, FAIL, HOST, 0, 32);
            x.term(0, FAIL, HOST, 0, 32);
            x.term(0, PASS, kind, 3, 0);
            checked(x, "kind " + kind + ", with nothing to be counted as empty", 9, 0, WRONG, 10, 0);
        }
    }

    private static void ringsEnd() {
        Due.about("QUERIES: policies that lead back to themselves end by the count");
        int[] kinds = {WITHIN, LEAD};
        for (int there : kinds) {
            for (int back : kinds) {
                MailVerdicts x = Due.domains(2);
                x.term(0, PASS, there, 1, 0);
                x.term(1, PASS, back, 0, 0);
                checked(x, there + " there and " + back + " back", 1, 0, WRONG, 10, 0);
                MailVerdicts y = Due.domains(1);
                y.term(0, PASS, there, -1, 0);
                checked(y, there + " to itself", 1, 0, WRONG, 10, 0);
            }
        }
    }

    private static void twoEmptiesOfEachKind() {
        Due.about("EMPTY ANSWERS: if 2 are counted already, the count stays and the whole result is WRONG");
        int[] kinds = {HOST, MAIL, KNOWN};
        for (int kind : kinds) {
            MailVerdicts x = Due.domains(2);
            x.term(0, PASS, kind, 1, 0);
            checked(x, "one of kind " + kind, 1, 0, NEUTRAL, 1, 1);
            x.term(0, PASS, kind, 1, 0);
            checked(x, "two of kind " + kind, 1, 0, NEUTRAL, 2, 2);
            x.term(0, PASS, kind, 1, 0);
            x.term(0, PASS, ALL, 0, 0);
            checked(x, "three of kind " + kind, 1, 0, WRONG, 3, 2);
        }
    }

    private static void emptyExchangers() {
        Due.about("EMPTY ANSWERS: each exchanger without an address counts 1");
        MailVerdicts x = Due.domains(3);
        x.term(0, PASS, MAIL, 1, 0);
        x.exchanger(1, 2);
        checked(x, "one", 1, 0, NEUTRAL, 1, 1);
        x.exchanger(1, 2);
        checked(x, "the same twice", 1, 0, NEUTRAL, 1, 2);
        x.exchanger(1, 2);
        checked(x, "thrice", 1, 0, WRONG, 1, 2);
        x.address(2, 7);
        checked(x, "with an address", 1, 0, PASS, 1, 0);
    }

    private static void emptyExchangersBehindAMatch() {
        Due.about("EMPTY ANSWERS: exchangers one after the other, as long as none before gave a match");
        for (int place = 0; place < 3; place++) {
            MailVerdicts x = Due.domains(4);
            x.address(2, 5);
            for (int i = 0; i < 3; i++) {
                x.exchanger(1, i == place ? 2 : 3);
            }
            x.term(0, SOFT, MAIL, 1, 32);
            checked(x, "a match at " + place, 5, 0, SOFT, 1, place);
            checked(x, "a miss at " + place, 6, 0, NEUTRAL, 1, 2);
        }
    }

    private static void countsRunOn() {
        Due.about("CHECKING: both counts run on through WITHIN and LEAD");
        MailVerdicts x = Due.domains(5);
        x.term(0, PASS, KNOWN, 4, 0);
        x.term(0, PASS, WITHIN, 1, 0);
        x.term(0, 0, LEAD, 2, 0);
        x.term(1, PASS, KNOWN, 4, 0);
        x.term(2, PASS, NET, 1, 32);
        checked(x, "two of them", 9, 0, NEUTRAL, 4, 2);
        x.term(2, PASS, KNOWN, 4, 0);
        checked(x, "three of them", 9, 0, WRONG, 5, 2);
        checked(x, "one policy alone", 9, 1, NEUTRAL, 1, 1);
    }

    private static void wrongEndsEverything() {
        Due.about("CHECKING: WRONG from anywhere within ends everything");
        MailVerdicts x = Due.domains(4);
        x.address(0, 1);
        x.term(0, PASS, WITHIN, 1, 0);
        x.term(0, PASS, KNOWN, 0, 0);
        x.term(1, PASS, WITHIN, 2, 0);
        x.term(1, PASS, ALL, 0, 0);
        x.term(1, 0, LEAD, 3, 0);
        x.term(2, 0, LEAD, 3, 0);
        checked(x, "nothing is come to behind it", 9, 0, WRONG, 3, 0);
        MailVerdicts y = Due.domains(3);
        y.term(0, PASS, WITHIN, 1, 0);
        y.term(0, 0, LEAD, 2, 0);
        y.term(1, PASS, WITHIN, 1, 0);
        y.term(2, PASS, ALL, 0, 0);
        checked(y, "no LEAD is followed behind it", 9, 0, WRONG, 10, 0);
    }

    private static void noCheckingSoFar() {
        Due.about("Promises 9 and 10: 0 when there was none");
        MailVerdicts x = new MailVerdicts();
        Due.same("queries()", x.queries(), 0);
        Due.same("empties()", x.empties(), 0);
        x.domain(-1, false);
        x.term(0, PASS, KNOWN, 0, 0);
        x.check(1, 1);
        x.verdict(1, 0, 1);
        x.verdict(1, 1, 0);
        Due.same("queries() after refused ones", x.queries(), 0);
        Due.same("empties() after refused ones", x.empties(), 0);
    }

    private static void countsOfTheLatest() {
        Due.about("Promises 9 and 10: counted in the latest checking (by check or verdict)");
        MailVerdicts x = Due.domains(3);
        x.address(2, 1);
        x.term(0, PASS, KNOWN, 0, 0);
        x.term(1, PASS, HOST, 2, 32);
        x.term(1, PASS, HOST, 2, 32);
        checked(x, "check(9, 0)", 9, 0, NEUTRAL, 1, 1);
        checked(x, "check(9, 1)", 9, 1, NEUTRAL, 2, 0);
        Due.same("verdict(9, 0, 1)", x.verdict(9, 0, 1), 0);
        Due.same("queries of the verdict", x.queries(), 1);
        Due.same("empties of the verdict", x.empties(), 1);
        Due.same("asked again", x.queries(), 1);
        checked(x, "check(9, 2)", 9, 2, NONE, 0, 0);
    }
}
