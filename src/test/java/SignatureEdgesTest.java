/** The boundary cases that promises 18 and 19 name, each sentence with a test of its own. */
public final class SignatureEdgesTest {
    private static final int MIN = Integer.MIN_VALUE;
    private static final int MAX = Integer.MAX_VALUE;
    /** Bodies whose relaxed form has a digest at the edges of the remainder. */
    private static final String DIGEST_0 = "\nakhlz3";
    private static final String DIGEST_1 = "\nAj96d";
    private static final String DIGEST_GREATEST = "\nalcvp6";

    public static void main(String[] args) {
        signOfNoDomain();
        threeSignatures();
        noDomainAndThree();
        anyNumber();
        noSignatureThere();
        noKey();
        numberBelowZero();
        smallestNumber();
        numberAboveTheModulus();
        digestAboveTheModulus();
        smallestModulus();
        greatestModulus();
        exponents();
        digestOfZero();
        illFormed();
        holdsNow();
        Due.end();
    }

    private static MailVerdicts signed(String text, int... numbers) {
        MailVerdicts x = Due.message(text, "");
        x.domain(-1, false);
        for (int i = 0; i < numbers.length; i++) {
            Due.same("sign " + numbers[i], x.sign(0, true, true, numbers[i]), i + 1);
        }
        return x;
    }

    private static void hold(MailVerdicts x, int modulus, int exponent, boolean... due) {
        Due.yes("key(" + modulus + ", " + exponent + ")", x.key(0, modulus, exponent));
        for (int i = 0; i < due.length; i++) {
            String call = "holds(" + i + ") by " + modulus + ", " + exponent;
            Due.same(call, x.holds(i) ? 1 : 0, due[i] ? 1 : 0);
        }
    }

    private static void signOfNoDomain() {
        Due.about("Promise 18: -1 when there is no domain d");
        MailVerdicts x = Due.domains(2);
        int[] none = {MIN, -2, -1, 2, 3, 11, 12, MAX};
        for (int d : none) {
            Due.same("sign(" + d + ")", x.sign(d, true, true, 0), -1);
        }
        Due.same("sign(0)", x.sign(0, true, true, 0), 1);
        Due.same("sign(1)", x.sign(1, true, true, 0), 2);
    }

    private static void threeSignatures() {
        Due.about("Promise 18: -2 when there are 3");
        MailVerdicts x = signed(DIGEST_1, 2, 2, 1);
        Due.same("the fourth", x.sign(0, true, true, 1), -2);
        Due.same("the fourth of other choices", x.sign(0, false, false, 1), -2);
        hold(x, 100, 1, false, false, true, false);
        x.clear();
        Due.same("the first after clear", x.sign(0, true, true, 1), 1);
    }

    private static void noDomainAndThree() {
        Due.about("Promise 18: -1 when there is no domain d (named before -2)");
        MailVerdicts x = signed("", 0, 0, 0);
        Due.same("no domain 1", x.sign(1, true, true, 0), -1);
        Due.same("no domain -1", x.sign(-1, true, true, 0), -1);
        Due.same("domain 0", x.sign(0, true, true, 0), -2);
    }

    private static void anyNumber() {
        Due.about("Promise 18: s is any number, and the message may be of any form");
        MailVerdicts x = signed("ill-formed", MIN, -1, MAX);
        hold(x, 2, 1, false, false, false);
    }

    private static void noSignatureThere() {
        Due.about("Promise 19: false also when there is none");
        MailVerdicts x = signed("", 0, 0);
        hold(x, 2, 1, true, true);
        int[] none = {MIN, -2, -1, 2, 3, 4, MAX};
        for (int i : none) {
            Due.no("holds(" + i + ")", x.holds(i));
        }
        x.sign(0, true, true, 0);
        Due.yes("holds(2)", x.holds(2));
        Due.no("holds(3)", x.holds(3));
        Due.no("holds(-1)", x.holds(-1));
    }

    private static void noKey() {
        Due.about("A SIGNATURE holds if the domain has a key");
        MailVerdicts x = signed("", 0);
        x.domain(0, false);
        x.sign(1, true, true, 0);
        Due.no("without a key", x.holds(0));
        hold(x, 2, 1, true, false);
        Due.no("the key of another domain", x.holds(1));
        x.key(1, 2, 1);
        Due.yes("a key of its own", x.holds(1));
    }

    private static void numberBelowZero() {
        Due.about("A SIGNATURE: s modulo the modulus is taken from 0 up, for s below 0 too");
        MailVerdicts x = signed(DIGEST_1, -6, -8, -1);
        hold(x, 7, 1, true, false, false);
        hold(x, 7, 2, true, true, true);
        hold(x, 9, 1, false, true, false);
        hold(x, 2, 1, false, false, true);
        hold(x, 3, 3, false, true, false);
    }

    private static void smallestNumber() {
        Due.about("A SIGNATURE: the smallest s below 0");
        MailVerdicts x = signed(DIGEST_GREATEST, MIN, MIN + 1, -1);
        hold(x, MAX, 1, true, false, true);
        hold(x, 2, 1, true, false, false);
        MailVerdicts y = signed(DIGEST_1, MIN, MIN + 1, -MAX + 1);
        hold(y, 3, 1, true, false, false);
        hold(y, MAX, 1, false, false, true);
    }

    private static void numberAboveTheModulus() {
        Due.about("A SIGNATURE: s modulo the modulus");
        MailVerdicts x = signed(DIGEST_1, 1, 8, 7);
        hold(x, 7, 1, true, true, false);
        MailVerdicts y = signed(DIGEST_0, 0, 7, MAX);
        hold(y, 7, 1, true, true, false);
        hold(y, MAX, 1, true, false, true);
    }

    private static void digestAboveTheModulus() {
        Due.about("A SIGNATURE: modulo the modulus, the same as the digest");
        MailVerdicts x = Due.domains(1);
        Due.same("the digest of a 10", x.digest(true, false), 11);
        x.sign(0, true, false, 1);
        x.sign(0, true, false, 11);
        x.sign(0, true, false, 0);
        hold(x, 10, 1, true, true, false);
        hold(x, 11, 1, false, true, true);
        hold(x, 12, 1, false, true, false);
    }

    private static void smallestModulus() {
        Due.about("A SIGNATURE: a key of the smallest modulus");
        hold(signed(DIGEST_1, 0, 1, -1), 2, 1, false, true, true);
        hold(signed(DIGEST_0, 0, 1, 2), 2, 1, true, false, true);
    }

    private static void greatestModulus() {
        Due.about("A SIGNATURE: a key of the greatest modulus");
        MailVerdicts x = signed(DIGEST_GREATEST, MAX - 1, -1, 1);
        hold(x, MAX, 1, true, true, false);
        hold(x, MAX, 2, false, false, false);
        hold(x, MAX, 3, true, true, false);
        hold(x, MAX, MAX, true, true, false);
        MailVerdicts y = signed(DIGEST_1, MAX - 1, 46341, 1);
        hold(y, MAX, MAX - 1, true, true, true);
        hold(y, MAX, 1, false, false, true);
    }

    private static void exponents() {
        Due.about("A SIGNATURE: s to the power of the exponent");
        for (int exponent = 1; exponent <= 12; exponent++) {
            MailVerdicts x = signed(DIGEST_1, 2, 3, 4);
            hold(x, 7, exponent, exponent % 3 == 0, exponent % 6 == 0, exponent % 3 == 0);
        }
    }

    private static void digestOfZero() {
        Due.about("A SIGNATURE: a digest of 0");
        MailVerdicts x = signed("", 0, 1, 6);
        Due.same("the digest", x.digest(true, true), 0);
        hold(x, 6, MAX, true, false, true);
        hold(x, 4, 1, true, false, false);
        hold(x, 4, 2, true, false, true);
    }

    private static void illFormed() {
        Due.about("A SIGNATURE: none holds for an ill-formed message");
        MailVerdicts x = signed("A", -1, 0, 1);
        hold(x, 2, 1, false, false, false);
        Due.typed(x, ":");
        hold(x, 2, 1, false, true, false);
        Due.typed(x, "\nB");
        hold(x, 2, 1, false, false, false);
        MailVerdicts y = signed("A:\n".repeat(12), 0);
        hold(y, 2, 1, true);
        Due.typed(y, "A:");
        hold(y, 2, 1, false);
    }

    private static void holdsNow() {
        Due.about("Promise 19: whether signature i holds now");
        MailVerdicts x = signed("A:1\n", 0);
        hold(x, 1000, 1, true);
        Due.listed(x, "a");
        Due.no("a field more", x.holds(0));
        Due.listed(x, "a");
        Due.yes("another name", x.holds(0));
        Due.typed(x, "\nb");
        Due.no("a body", x.holds(0));
    }
}
