/** The boundary cases that promises 1 to 7 name, each sentence with a test of its own. */
public final class DomainEdgesTest {
    private static final int MIN = Integer.MIN_VALUE;
    private static final int MAX = Integer.MAX_VALUE;
    private static final int ALL = 0;
    private static final int NET = 1;
    private static final int HOST = 2;
    private static final int MAIL = 3;
    private static final int WITHIN = 4;
    private static final int KNOWN = 5;
    private static final int LEAD = 6;

    public static void main(String[] args) {
        newObjectIsEmpty();
        twelveDomains();
        parentIsNoDomain();
        parentsAreEarlier();
        addressOfNoDomain();
        threeAddresses();
        sameAddressTwice();
        exchangerOfNoDomain();
        threeExchangers();
        termOfNoDomain();
        termKinds();
        termQualifiers();
        termTargets();
        termLengths();
        allLooksAtNothing();
        netTakesAnyNumber();
        eighthTerm();
        eighthTermIsLead();
        secondLead();
        keyOfNoDomain();
        keyModulus();
        keyExponent();
        keyIsReplaced();
        wishOfNoDomain();
        wishRanges();
        wishIsReplaced();
        Due.end();
    }

    private static void newObjectIsEmpty() {
        Due.about("Promise 1: no domains, an empty message, an empty list, no signatures");
        MailVerdicts x = new MailVerdicts();
        for (int d = -1; d <= 12; d++) {
            Due.same("check(1, " + d + ")", x.check(1, d), -1);
            Due.no("address(" + d + ")", x.address(d, 1));
            Due.no("exchanger(" + d + ")", x.exchanger(d, d));
            Due.same("term(" + d + ")", x.term(d, 2, ALL, 0, 0), -1);
            Due.no("key(" + d + ")", x.key(d, 2, 1));
            Due.no("wish(" + d + ")", x.wish(d, 0, 0, false, false));
            Due.same("sign(" + d + ")", x.sign(d, true, true, 0), -1);
            Due.same("verdict(" + d + ")", x.verdict(1, d, d), -1);
            Due.no("holds(" + d + ")", x.holds(d));
        }
        Due.same("fields()", x.fields(), 0);
        Due.text("the relaxed form", Due.form(x, true, true), "");
        Due.text("the plain form", Due.form(x, false, false), "\n");
        Due.same("the first domain", x.domain(-1, false), 0);
        Due.same("the first signature", x.sign(0, true, true, 0), 1);
        Due.typed(x, "A:1\n\nb");
        Due.text("an empty list takes nothing", Due.form(x, false, false), "b\n");
    }

    private static void twelveDomains() {
        Due.about("Promise 2: -1 when twelve are there");
        MailVerdicts x = Due.domains(11);
        Due.same("the twelfth", x.domain(-1, true), 11);
        for (int parent = -2; parent <= 13; parent++) {
            Due.same("the thirteenth below " + parent, x.domain(parent, false), -1);
            Due.same("the thirteenth below " + parent, x.domain(parent, true), -1);
        }
        Due.same("the twelfth is there", x.check(1, 11), 0);
        Due.same("no thirteenth is there", x.check(1, 12), -1);
    }

    private static void parentIsNoDomain() {
        Due.about("Promise 2: -1 when parent is neither -1 nor a domain");
        MailVerdicts x = new MailVerdicts();
        int[] none = {MIN, -12, -2, 0, 1, 11, 12, MAX};
        for (int parent : none) {
            Due.same("domain(" + parent + ")", x.domain(parent, false), -1);
            Due.same("domain(" + parent + ")", x.domain(parent, true), -1);
        }
        Due.same("domain(-1)", x.domain(-1, false), 0);
        Due.same("domain(1), which would be its own parent", x.domain(1, false), -1);
        Due.same("domain(0)", x.domain(0, false), 1);
        Due.same("domain(2)", x.domain(2, false), -1);
        Due.same("domain(1)", x.domain(1, false), 2);
    }

    private static void parentsAreEarlier() {
        Due.about("Promise 2: a new domain below a parent or without one: its number");
        MailVerdicts x = new MailVerdicts();
        for (int d = 0; d < 12; d++) {
            Due.same("domain " + d + " of a chain", x.domain(d - 1, false), d);
        }
        x.wish(0, 0, 2, false, false);
        Due.same("the first is the organisation of the twelfth", x.verdict(1, 11, 11), 4);
        Due.same("and of itself", x.verdict(1, 0, 0), 2);
    }

    private static void addressOfNoDomain() {
        Due.about("Promise 3: false when there is no domain d");
        MailVerdicts x = Due.domains(2);
        int[] none = {MIN, -2, -1, 2, 3, 11, 12, MAX};
        for (int d : none) {
            Due.no("address(" + d + ")", x.address(d, 1));
        }
        Due.yes("address(0)", x.address(0, 1));
        Due.yes("address(1)", x.address(1, 1));
    }

    private static void threeAddresses() {
        Due.about("Promise 3: false when it has 3");
        MailVerdicts x = Due.domains(2);
        int[] numbers = {MIN, -1, MAX};
        for (int number : numbers) {
            Due.yes("address(0, " + number + ")", x.address(0, number));
        }
        Due.no("the fourth", x.address(0, 0));
        Due.no("the fourth, one that is there", x.address(0, MAX));
        Due.yes("another domain has its own three", x.address(1, 0));
        x.term(0, 2, HOST, -1, 32);
        for (int number : numbers) {
            Due.same("check(" + number + ")", x.check(number, 0), 2);
        }
        Due.same("the refused one", x.check(0, 0), 1);
    }

    private static void sameAddressTwice() {
        Due.about("Promise 3: the same may be there twice");
        MailVerdicts x = Due.domains(1);
        Due.yes("first", x.address(0, 7));
        Due.yes("twice", x.address(0, 7));
        Due.yes("thrice", x.address(0, 7));
        Due.no("each counts", x.address(0, 8));
    }

    private static void exchangerOfNoDomain() {
        Due.about("Promise 4: false when there is no domain d or e");
        MailVerdicts x = Due.domains(2);
        int[] none = {MIN, -2, -1, 2, 3, 11, 12, MAX};
        for (int d : none) {
            Due.no("exchanger(" + d + ", 0)", x.exchanger(d, 0));
            Due.no("exchanger(0, " + d + ")", x.exchanger(0, d));
            Due.no("exchanger(" + d + ", " + d + ")", x.exchanger(d, d));
        }
        Due.yes("exchanger(1, 0)", x.exchanger(1, 0));
        Due.yes("exchanger(0, 1)", x.exchanger(0, 1));
        Due.yes("exchanger(0, 0)", x.exchanger(0, 0));
    }

    private static void threeExchangers() {
        Due.about("Promise 4: false when d has 3; behind the others");
        MailVerdicts x = Due.domains(5);
        for (int e = 1; e <= 3; e++) {
            x.address(e, 100 + e);
            Due.yes("exchanger(0, " + e + ")", x.exchanger(0, e));
        }
        x.address(4, 104);
        Due.no("the fourth", x.exchanger(0, 4));
        Due.no("the fourth, one that is there", x.exchanger(0, 1));
        Due.yes("another domain has its own three", x.exchanger(4, 0));
        x.term(0, 2, MAIL, -1, 32);
        for (int e = 1; e <= 3; e++) {
            Due.same("exchanger " + e, x.check(100 + e, 0), 2);
        }
        Due.same("the refused one", x.check(104, 0), 1);
    }

    private static void termOfNoDomain() {
        Due.about("Promise 5: -1 when there is no domain d");
        MailVerdicts x = Due.domains(2);
        int[] none = {MIN, -2, -1, 2, 3, 11, 12, MAX};
        for (int d : none) {
            for (int kind = ALL; kind <= LEAD; kind++) {
                Due.same("term(" + d + "), kind " + kind, x.term(d, 2, kind, 0, 0), -1);
            }
        }
        Due.same("term(1)", x.term(1, 2, ALL, 0, 0), 1);
    }

    private static void termKinds() {
        Due.about("Promise 5: -1 when kind is not 0 .. 6");
        MailVerdicts x = Due.domains(1);
        int[] none = {MIN, -2, -1, 7, 8, MAX};
        for (int kind : none) {
            Due.same("kind " + kind, x.term(0, 2, kind, 0, 0), -1);
        }
        for (int kind = ALL; kind <= LEAD; kind++) {
            Due.same("kind " + kind, x.term(0, 2, kind, 0, 0), kind + 1);
        }
    }

    private static void termQualifiers() {
        Due.about("Promise 5: -1 when qualifier is not 1 .. 4 (LEAD does not look at it)");
        int[] none = {MIN, -1, 0, 5, 6, MAX};
        for (int kind = ALL; kind <= KNOWN; kind++) {
            MailVerdicts x = Due.domains(1);
            for (int qualifier : none) {
                Due.same("kind " + kind + " with " + qualifier, x.term(0, qualifier, kind, 0, 0), -1);
            }
            for (int qualifier = 1; qualifier <= 4; qualifier++) {
                Due.same("kind " + kind + " with " + qualifier, x.term(0, qualifier, kind, 0, 0), qualifier);
            }
        }
        for (int qualifier : none) {
            MailVerdicts x = Due.domains(1);
            Due.same("LEAD with " + qualifier, x.term(0, qualifier, LEAD, 0, 0), 1);
        }
    }

    private static void termTargets() {
        Due.about("Promise 5: -1 when t is neither -1 nor a domain");
        int[] none = {MIN, -12, -2, 2, 3, 11, 12, MAX};
        for (int kind = HOST; kind <= LEAD; kind++) {
            MailVerdicts x = Due.domains(2);
            for (int t : none) {
                Due.same("kind " + kind + ", t " + t, x.term(0, 2, kind, t, 32), -1);
            }
            Due.same("kind " + kind + ", t -1", x.term(0, 2, kind, -1, 32), 1);
            Due.same("kind " + kind + ", t 1", x.term(1, 2, kind, 1, 32), 1);
        }
    }

    private static void termLengths() {
        Due.about("Promise 5: -1 when the length is not 0 .. 32 (as far as it is looked at)");
        int[] none = {MIN, -32, -1, 33, 64, MAX};
        for (int kind = NET; kind <= MAIL; kind++) {
            MailVerdicts x = Due.domains(1);
            for (int length : none) {
                Due.same("kind " + kind + ", length " + length, x.term(0, 2, kind, 0, length), -1);
            }
            Due.same("kind " + kind + ", length 0", x.term(0, 2, kind, 0, 0), 1);
            Due.same("kind " + kind + ", length 32", x.term(0, 2, kind, 0, 32), 2);
        }
        int[] others = {ALL, WITHIN, KNOWN, LEAD};
        for (int kind : others) {
            for (int length : none) {
                MailVerdicts x = Due.domains(1);
                Due.same("kind " + kind + ", length " + length, x.term(0, 2, kind, 0, length), 1);
            }
        }
    }

    private static void allLooksAtNothing() {
        Due.about("Promise 5: ALL looks at none of a and length");
        int[] any = {MIN, -2, -1, 0, 1, 12, 33, MAX};
        for (int a : any) {
            MailVerdicts x = Due.domains(1);
            Due.same("a " + a, x.term(0, 3, ALL, a, a), 1);
            Due.same("it matches", x.check(a, 0), 3);
        }
    }

    private static void netTakesAnyNumber() {
        Due.about("Promise 5: NET takes a as the number");
        int[] any = {MIN, -2, -1, 0, 1, 12, MAX};
        for (int number : any) {
            MailVerdicts x = Due.domains(1);
            Due.same("number " + number, x.term(0, 2, NET, number, 32), 1);
            Due.same("the same", x.check(number, 0), 2);
            Due.same("another", x.check(number ^ 1, 0), 1);
        }
    }

    private static void eighthTerm() {
        Due.about("Promise 5: -2 when the policy has 8 terms");
        MailVerdicts x = Due.domains(2);
        for (int count = 1; count <= 7; count++) {
            Due.same("term " + count, x.term(0, 3, NET, count, 32), count);
        }
        Due.same("the eighth", x.term(0, 4, NET, 8, 32), 8);
        for (int kind = ALL; kind <= LEAD; kind++) {
            Due.same("the ninth of kind " + kind, x.term(0, 2, kind, 1, 0), -2);
        }
        Due.same("the eighth was taken", x.check(8, 0), 4);
        Due.same("the ninth was not", x.check(9, 0), 1);
        Due.same("another policy has its own eight", x.term(1, 2, ALL, 0, 0), 1);
    }

    private static void eighthTermIsLead() {
        Due.about("Promise 5: the LEAD is one of the 8 terms");
        MailVerdicts x = Due.domains(2);
        x.term(1, 4, ALL, 0, 0);
        for (int count = 1; count <= 7; count++) {
            x.term(0, 3, NET, count, 32);
        }
        Due.same("the eighth, a LEAD", x.term(0, 0, LEAD, 1, 0), 8);
        Due.same("the ninth", x.term(0, 2, ALL, 0, 0), -2);
        Due.same("the ninth, a LEAD", x.term(0, 0, LEAD, 0, 0), -2);
        Due.same("the LEAD is followed", x.check(9, 0), 4);
        MailVerdicts y = Due.domains(1);
        Due.same("the first, a LEAD", y.term(0, 0, LEAD, 0, 0), 1);
        for (int count = 2; count <= 8; count++) {
            Due.same("term " + count + " behind a LEAD", y.term(0, 3, NET, count, 32), count);
        }
        Due.same("the ninth behind a LEAD", y.term(0, 3, NET, 9, 32), -2);
        Due.same("the eighth was taken", y.check(8, 0), 3);
    }

    private static void secondLead() {
        Due.about("Promise 5: -2 when the term is a LEAD and it has one already");
        MailVerdicts x = Due.domains(3);
        x.term(1, 3, ALL, 0, 0);
        x.term(2, 4, ALL, 0, 0);
        Due.same("the first", x.term(0, 2, LEAD, 1, 0), 1);
        Due.same("the second", x.term(0, 2, LEAD, 2, 0), -2);
        Due.same("the second, to the same", x.term(0, 2, LEAD, 1, 0), -2);
        Due.same("the second, to itself", x.term(0, 2, LEAD, -1, 0), -2);
        Due.same("the first one stays", x.check(5, 0), 3);
        Due.same("other terms are taken", x.term(0, 2, NET, 6, 32), 2);
        Due.same("a second behind them", x.term(0, 2, LEAD, 2, 0), -2);
    }

    private static void keyOfNoDomain() {
        Due.about("Promise 6: false when there is no domain d");
        MailVerdicts x = Due.domains(2);
        int[] none = {MIN, -2, -1, 2, 3, 11, 12, MAX};
        for (int d : none) {
            Due.no("key(" + d + ")", x.key(d, 2, 1));
        }
        Due.yes("key(0)", x.key(0, 2, 1));
        Due.yes("key(1)", x.key(1, 2, 1));
    }

    private static void keyModulus() {
        Due.about("Promise 6: false when modulus is less than 2");
        MailVerdicts x = Due.domains(1);
        int[] small = {MIN, -2, -1, 0, 1};
        for (int modulus : small) {
            Due.no("modulus " + modulus, x.key(0, modulus, 1));
        }
        x.sign(0, true, true, 0);
        Due.no("there is no key", x.holds(0));
        Due.yes("modulus 2", x.key(0, 2, 1));
        Due.yes("it is a key", x.holds(0));
        Due.yes("modulus 3", x.key(0, 3, 1));
        Due.yes("the greatest modulus", x.key(0, MAX, 1));
    }

    private static void keyExponent() {
        Due.about("Promise 6: false when exponent is less than 1");
        MailVerdicts x = Due.domains(1);
        int[] small = {MIN, -2, -1, 0};
        for (int exponent : small) {
            Due.no("exponent " + exponent, x.key(0, 2, exponent));
        }
        x.sign(0, true, true, 0);
        Due.no("there is no key", x.holds(0));
        Due.yes("exponent 1", x.key(0, 2, 1));
        Due.yes("it is a key", x.holds(0));
        Due.yes("the greatest exponent", x.key(0, 2, MAX));
    }

    private static void keyIsReplaced() {
        Due.about("Promise 6: domain d has this key from now on");
        MailVerdicts x = Due.domains(1);
        x.sign(0, true, false, 11);
        x.key(0, 100, 1);
        Due.yes("11 is the digest", x.holds(0));
        x.key(0, 100, 2);
        Due.no("21 is not", x.holds(0));
        x.key(0, 10, 2);
        Due.yes("1 is 11 modulo 10", x.holds(0));
    }

    private static void wishOfNoDomain() {
        Due.about("Promise 7: false when there is no domain d");
        MailVerdicts x = Due.domains(2);
        int[] none = {MIN, -2, -1, 2, 3, 11, 12, MAX};
        for (int d : none) {
            Due.no("wish(" + d + ")", x.wish(d, 0, 0, false, false));
        }
        Due.yes("wish(0)", x.wish(0, 0, 0, false, false));
        Due.yes("wish(1)", x.wish(1, 0, 0, false, false));
    }

    private static void wishRanges() {
        Due.about("Promise 7: false when own or below is not 0 .. 2");
        int[] none = {MIN, -2, -1, 3, 4, MAX};
        for (int wanted : none) {
            MailVerdicts x = Due.domains(1);
            Due.no("own " + wanted, x.wish(0, wanted, 0, false, false));
            Due.no("below " + wanted, x.wish(0, 0, wanted, false, false));
            Due.no("both " + wanted, x.wish(0, wanted, wanted, false, false));
            Due.same("there is no wish", x.verdict(1, 0, 0), 0);
        }
        for (int own = 0; own <= 2; own++) {
            for (int below = 0; below <= 2; below++) {
                MailVerdicts x = new MailVerdicts();
                x.domain(-1, false);
                x.domain(0, false);
                Due.yes("own " + own + ", below " + below, x.wish(0, own, below, true, true));
                Due.same("for itself", x.verdict(1, 0, 0), 2 + own);
                Due.same("for one below", x.verdict(1, 1, 1), 2 + below);
            }
        }
    }

    private static void wishIsReplaced() {
        Due.about("Promise 7: domain d has this wish from now on");
        MailVerdicts x = new MailVerdicts();
        x.domain(-1, false);
        x.domain(0, false);
        x.term(1, 2, ALL, 0, 0);
        x.wish(0, 1, 1, true, true);
        Due.same("strict", x.verdict(1, 1, 0), 3);
        x.wish(0, 2, 1, true, true);
        Due.same("another wish", x.verdict(1, 1, 0), 4);
        x.wish(0, 2, 1, false, true);
        Due.same("not strict any more", x.verdict(1, 1, 0), 1);
    }
}
