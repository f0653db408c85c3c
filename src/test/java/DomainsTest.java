/** Promises 1 to 7: a new object, and what domains are made of. */
public final class DomainsTest {
    private static final int MIN = Integer.MIN_VALUE;
    private static final int MAX = Integer.MAX_VALUE;

    public static void main(String[] args) {
        newObject();
        domains();
        addresses();
        exchangers();
        termsRefused();
        termsLookAtWhatTheyNeed();
        termsFull();
        keys();
        wishes();
        Due.end();
    }

    private static void newObject() {
        MailVerdicts x = new MailVerdicts();
        Due.same("new: queries", x.queries(), 0);
        Due.same("new: empties", x.empties(), 0);
        Due.same("new: fields", x.fields(), 0);
        Due.same("new: length plain", x.length(false, false), 1);
        Due.same("new: length relaxed", x.length(true, true), 0);
        Due.no("new: holds", x.holds(0));
        Due.same("new: check", x.check(0, 0), -1);
        Due.same("new: verdict", x.verdict(0, 0, 0), -1);
        Due.same("new: sign", x.sign(0, true, true, 1), -1);
        Due.no("new: address", x.address(0, 1));
        Due.typed(x, "A:1\n");
        Due.same("new: nothing is listed", x.length(true, true), 0);
        new MailVerdicts().domain(-1, false);
        Due.same("new: objects share nothing", x.domain(-1, false), 0);
    }

    private static void domains() {
        MailVerdicts x = new MailVerdicts();
        Due.same("domain below none yet", x.domain(0, false), -1);
        Due.same("domain(-2)", x.domain(-2, false), -1);
        Due.same("domain(min)", x.domain(MIN, false), -1);
        Due.same("domain(max)", x.domain(MAX, false), -1);
        for (int i = 0; i < 12; i++) {
            Due.same("domain below itself", x.domain(i, false), -1);
            Due.same("domain " + i, x.domain(i - 1, i % 2 == 0), i);
        }
        Due.same("thirteenth domain", x.domain(-1, false), -1);
        Due.same("thirteenth domain below 11", x.domain(11, true), -1);
        Due.same("check 11", x.check(0, 11), 0);
        Due.same("check 12", x.check(0, 12), -1);
    }

    private static void addresses() {
        MailVerdicts x = new MailVerdicts();
        x.domain(-1, false);
        x.domain(-1, false);
        Due.no("address(-1)", x.address(-1, 5));
        Due.no("address(2)", x.address(2, 5));
        Due.no("address(min)", x.address(MIN, 5));
        Due.yes("address", x.address(0, MIN));
        Due.yes("address twice", x.address(0, MIN));
        Due.yes("third address", x.address(0, 7));
        Due.no("fourth address", x.address(0, 8));
        Due.same("term", x.term(0, 2, 2, -1, 32), 1);
        Due.same("first address", x.check(MIN, 0), 2);
        Due.same("last address", x.check(7, 0), 2);
        Due.same("refused address", x.check(8, 0), 1);
        Due.same("term", x.term(1, 2, 2, -1, 32), 1);
        Due.same("no address of another domain", x.check(7, 1), 1);
        Due.same("no address", x.empties(), 1);
    }

    private static void exchangers() {
        MailVerdicts x = new MailVerdicts();
        for (int i = 0; i < 5; i++) {
            x.domain(-1, false);
            x.address(i, 100 + i);
        }
        Due.no("exchanger(5, 0)", x.exchanger(5, 0));
        Due.no("exchanger(-1, 0)", x.exchanger(-1, 0));
        Due.no("exchanger(0, -1)", x.exchanger(0, -1));
        Due.no("exchanger(0, 5)", x.exchanger(0, 5));
        Due.yes("exchanger itself", x.exchanger(0, 0));
        Due.yes("exchanger later", x.exchanger(0, 3));
        Due.yes("exchanger again", x.exchanger(0, 3));
        Due.no("fourth exchanger", x.exchanger(0, 4));
        x.term(0, 2, 3, -1, 32);
        Due.same("exchanger itself matches", x.check(100, 0), 2);
        Due.same("exchanger matches", x.check(103, 0), 2);
        Due.same("refused exchanger", x.check(104, 0), 1);
        Due.same("domain that is none", x.check(101, 0), 1);
    }

    private static void termsRefused() {
        MailVerdicts x = new MailVerdicts();
        x.domain(-1, false);
        x.domain(-1, false);
        int[] noDomains = {-2, 2, 12, MIN, MAX};
        for (int d : noDomains) {
            Due.same("term of no domain " + d, x.term(d, 2, 0, 0, 0), -1);
            for (int kind = 2; kind <= 6; kind++) {
                Due.same("term kind " + kind + " with t " + d, x.term(0, 2, kind, d, 0), -1);
            }
        }
        Due.same("term of domain -1", x.term(-1, 2, 0, 0, 0), -1);
        Due.same("kind -1", x.term(0, 2, -1, 0, 0), -1);
        Due.same("kind 7", x.term(0, 2, 7, 0, 0), -1);
        for (int kind = 0; kind <= 5; kind++) {
            Due.same("qualifier 0, kind " + kind, x.term(0, 0, kind, 0, 0), -1);
            Due.same("qualifier 5, kind " + kind, x.term(0, 5, kind, 0, 0), -1);
        }
        for (int kind = 1; kind <= 3; kind++) {
            Due.same("length -1, kind " + kind, x.term(0, 2, kind, 0, -1), -1);
            Due.same("length 33, kind " + kind, x.term(0, 2, kind, 0, 33), -1);
        }
        Due.same("refused terms change nothing", x.check(0, 0), 0);
    }

    private static void termsLookAtWhatTheyNeed() {
        MailVerdicts x = new MailVerdicts();
        x.domain(-1, false);
        Due.same("ALL looks at neither", x.term(0, 1, 0, 99, 99), 1);
        Due.same("NET takes any number", x.term(0, 4, 1, -2, 0), 2);
        Due.same("HOST of length 32", x.term(0, 4, 2, 0, 32), 3);
        Due.same("MAIL of itself", x.term(0, 1, 3, -1, 0), 4);
        Due.same("WITHIN looks at no length", x.term(0, 1, 4, 0, -1), 5);
        Due.same("KNOWN looks at no length", x.term(0, 1, 5, -1, 33), 6);
        Due.same("LEAD looks at t and nothing else", x.term(0, 0, 6, -1, 33), 7);
        Due.same("first term", x.check(0, 0), 1);
    }

    private static void termsFull() {
        MailVerdicts x = new MailVerdicts();
        x.domain(-1, false);
        x.domain(-1, false);
        Due.same("LEAD", x.term(0, 2, 6, 1, 0), 1);
        Due.same("second LEAD", x.term(0, 2, 6, 1, 0), -2);
        Due.same("second LEAD to nowhere", x.term(0, 2, 6, 2, 0), -1);
        for (int i = 2; i <= 8; i++) {
            Due.same("term " + i, x.term(0, 3, 1, 0, 32), i);
        }
        Due.same("ninth term", x.term(0, 2, 0, 0, 0), -2);
        Due.same("ninth term with a wrong qualifier", x.term(0, 0, 0, 0, 0), -1);
        for (int i = 1; i <= 8; i++) {
            Due.same("term " + i, x.term(1, 3, 1, 0, 32), i);
        }
        Due.same("ninth term, a LEAD", x.term(1, 2, 6, 0, 0), -2);
        Due.same("the LEAD was not taken", x.check(1, 1), 1);
        Due.same("the first LEAD stayed", x.check(1, 0), 1);
        Due.same("queries", x.queries(), 1);
    }

    private static void keys() {
        MailVerdicts x = new MailVerdicts();
        x.domain(-1, false);
        Due.no("key(1)", x.key(1, 5, 5));
        Due.no("key(-1)", x.key(-1, 5, 5));
        Due.no("modulus 1", x.key(0, 1, 5));
        Due.no("modulus below 0", x.key(0, MIN, 5));
        Due.no("exponent 0", x.key(0, 5, 0));
        Due.no("exponent below 0", x.key(0, 5, MIN));
        x.sign(0, true, true, 0);
        Due.no("refused keys are none", x.holds(0));
        Due.yes("smallest key", x.key(0, 2, 1));
        Due.yes("0 is 0 modulo 2", x.holds(0));
        Due.yes("greatest key", x.key(0, MAX, MAX));
        Due.yes("0 to a great power", x.holds(0));
        x.sign(0, true, true, 2);
        Due.no("2 to a great power", x.holds(1));
        Due.yes("a later key", x.key(0, 2, 3));
        Due.yes("8 is 0 modulo 2", x.holds(1));
        Due.no("refused", x.key(0, 1, 1));
        Due.yes("the key stays when another is refused", x.holds(1));
    }

    private static void wishes() {
        MailVerdicts x = new MailVerdicts();
        x.domain(-1, false);
        Due.no("wish(1)", x.wish(1, 0, 0, true, true));
        Due.no("wish(-1)", x.wish(-1, 0, 0, true, true));
        Due.no("own 3", x.wish(0, 3, 0, true, true));
        Due.no("own -1", x.wish(0, -1, 0, true, true));
        Due.no("below 3", x.wish(0, 0, 3, true, true));
        Due.no("below -1", x.wish(0, 0, -1, true, true));
        Due.same("refused wishes are none", x.verdict(0, 0, 0), 0);
        for (int own = 0; own <= 2; own++) {
            Due.yes("own " + own, x.wish(0, own, 2 - own, false, false));
            Due.same("verdict for own " + own, x.verdict(0, 0, 0), 2 + own);
        }
        Due.no("refused", x.wish(0, 0, 3, false, false));
        Due.same("the wish stays when another is refused", x.verdict(0, 0, 0), 4);
    }
}
