import java.math.BigInteger;

/** Promises 18 and 19: signatures, and whether they hold. */
public final class SignatureTest {
    /** A prime of which 3 does not divide the number before it, so that every number has a cube root. */
    private static final int PRIME = 2147483489;

    public static void main(String[] args) {
        signing();
        holdingByChoices();
        holdingNow();
        keysOfEachDomain();
        congruence();
        belowZero();
        illFormed();
        greatNumbers();
        Due.end();
    }

    private static int rootOf(int digest, int exponent) {
        BigInteger order = BigInteger.valueOf(PRIME - 1);
        BigInteger inverse = BigInteger.valueOf(exponent).modInverse(order);
        return BigInteger.valueOf(digest).modPow(inverse, BigInteger.valueOf(PRIME)).intValue();
    }

    private static void signing() {
        MailVerdicts x = new MailVerdicts();
        Due.same("no domain", x.sign(0, false, false, 0), -1);
        x.domain(-1, false);
        Due.same("domain -1", x.sign(-1, false, false, 0), -1);
        Due.same("first", x.sign(0, false, false, 0), 1);
        Due.same("second", x.sign(0, false, false, 0), 2);
        Due.same("domain 1", x.sign(1, false, false, 0), -1);
        Due.same("third", x.sign(0, false, false, Integer.MIN_VALUE), 3);
        Due.same("fourth", x.sign(0, false, false, 0), -2);
        Due.same("fourth of no domain", x.sign(1, false, false, 0), -1);
        Due.no("no key", x.holds(0));
        Due.no("none", x.holds(3));
        Due.no("none", x.holds(-1));
        Due.no("none", x.holds(Integer.MIN_VALUE));
        Due.no("none", x.holds(Integer.MAX_VALUE));
    }

    private static void holdingByChoices() {
        for (int choice = 0; choice < 4; choice++) {
            boolean fields = choice / 2 == 1;
            boolean body = choice % 2 == 1;
            MailVerdicts x = Due.message("A:  1\n\n  b  \n", "a");
            x.domain(-1, false);
            x.key(0, PRIME, 3);
            int s = rootOf(x.digest(fields, body), 3);
            x.sign(0, fields, body, s);
            x.sign(0, !fields, body, s);
            x.sign(0, fields, !body, s);
            Due.yes("holds with its choices", x.holds(0));
            Due.no("not with other fields", x.holds(1));
            Due.no("not with another body", x.holds(2));
            x.clear();
            Due.typed(x, "A:  1\n\n  b  \n");
            Due.listed(x, "a");
            x.sign(0, fields, body, s + 1);
            Due.no("not with another number", x.holds(0));
        }
    }

    private static void holdingNow() {
        MailVerdicts x = Due.message("A:1\nB:2\n\nb", "a");
        x.domain(-1, false);
        x.sign(0, true, true, rootOf(x.digest(true, true), 3));
        Due.no("no key yet", x.holds(0));
        x.key(0, PRIME, 3);
        Due.yes("key", x.holds(0));
        x.key(0, PRIME, 5);
        Due.no("another key", x.holds(0));
        x.key(0, PRIME, 3);
        Due.typed(x, "  \n\n");
        Due.yes("relaxed characters more", x.holds(0));
        Due.listed(x, ":");
        Due.yes("a colon more", x.holds(0));
        Due.listed(x, "b");
        Due.no("a name more", x.holds(0));
        MailVerdicts y = Due.message("A:1\n\nb", "a");
        y.domain(-1, false);
        y.key(0, PRIME, 3);
        y.sign(0, true, true, rootOf(y.digest(true, true), 3));
        Due.yes("before", y.holds(0));
        Due.typed(y, "c");
        Due.no("a character more", y.holds(0));
    }

    private static void keysOfEachDomain() {
        MailVerdicts x = Due.message("A:1\n\nb", "a");
        x.domain(-1, false);
        x.domain(0, false);
        x.key(0, PRIME, 3);
        int s = rootOf(x.digest(true, true), 3);
        x.sign(1, true, true, s);
        x.sign(0, true, true, s);
        Due.no("no key of its own", x.holds(0));
        Due.yes("its own key", x.holds(1));
        x.key(1, PRIME, 3);
        Due.yes("its own key too", x.holds(0));
    }

    private static void congruence() {
        MailVerdicts x = new MailVerdicts();
        x.domain(-1, false);
        x.key(0, 7, 1);
        x.sign(0, true, false, 4);
        x.sign(0, true, false, 11);
        x.sign(0, true, false, 5);
        Due.yes("4 is 11 modulo 7", x.holds(0));
        Due.yes("11 is 11", x.holds(1));
        Due.no("5 is not 11 modulo 7", x.holds(2));
        x.key(0, 2, 1);
        Due.no("4 is not 11 modulo 2", x.holds(0));
        Due.yes("5 is 11 modulo 2", x.holds(2));
    }

    private static void belowZero() {
        MailVerdicts x = new MailVerdicts();
        x.domain(-1, false);
        x.key(0, 7, 1);
        x.sign(0, true, false, -3);
        x.sign(0, true, false, -4);
        x.sign(0, true, false, Integer.MIN_VALUE);
        Due.yes("-3 is 11 modulo 7", x.holds(0));
        Due.no("-4 is not 11 modulo 7", x.holds(1));
        Due.no("min is 5 modulo 7", x.holds(2));
        x.key(0, 2147483637, 1);
        Due.no("min is 2147483626", x.holds(2));
        x.key(0, 2147483647, 1);
        Due.no("min is 2147483646", x.holds(2));
        x.key(0, 5, 1);
        Due.no("min is 2 modulo 5", x.holds(2));
        Due.yes("-4 is 1 modulo 5", x.holds(1));
    }

    private static void illFormed() {
        MailVerdicts x = Due.message("A", "");
        x.domain(-1, false);
        x.key(0, 2, 1);
        x.sign(0, true, true, 0);
        x.sign(0, true, true, 1);
        Due.no("ill-formed, 0", x.holds(0));
        Due.no("ill-formed, 1", x.holds(1));
        Due.typed(x, ":");
        Due.yes("well-formed", x.holds(0));
    }

    private static void greatNumbers() {
        MailVerdicts x = Due.message("A:1\n\n" + "~".repeat(200), "a");
        x.domain(-1, false);
        int[] exponents = {1, 3, 5, 65537, 2147483647};
        BigInteger order = BigInteger.valueOf(PRIME - 1);
        for (int exponent : exponents) {
            if (BigInteger.valueOf(exponent).gcd(order).equals(BigInteger.ONE)) {
                x.clear();
                x.key(0, PRIME, exponent);
                int s = rootOf(x.digest(true, false), exponent);
                x.sign(0, true, false, s);
                x.sign(0, true, false, s - PRIME);
                x.sign(0, true, false, s - 1);
                Due.yes("exponent " + exponent, x.holds(0));
                Due.yes("exponent " + exponent + ", below 0", x.holds(1));
                Due.no("exponent " + exponent + ", another", x.holds(2));
            }
        }
    }
}
