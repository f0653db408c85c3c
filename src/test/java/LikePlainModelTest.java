import java.util.Random;

/** Long runs of calls, the same ones each time, on the program and on the plain model. */
public final class LikePlainModelTest {
    private static final int RUNS = 4000;
    private static final int CALLS = 512;
    private static final String TYPED = "aAbB-:    \n\n\nx";
    private static final String HEAD = "A: x\nb:y \n z\na:  q  r\nB:\n";
    private static final String LISTED = "aAbB::-";

    private final Random random;
    private final MailVerdicts x = new MailVerdicts();
    private final PlainModel model = new PlainModel();
    private final int run;
    private int calls;

    private LikePlainModelTest(int run) {
        this.run = run;
        random = new Random(run);
    }

    public static void main(String[] args) {
        for (int run = 0; run < RUNS; run++) {
            new LikePlainModelTest(run).go();
        }
        Due.end();
    }

    private void go() {
        int kind = run % 4;
        if (kind == 3) {
            openSigned();
        }
        while (calls < CALLS) {
            if (kind == 3) {
                signedCall(random.nextInt(16));
            } else if (kind == 0 || kind == 2 && random.nextBoolean()) {
                domainCall(random.nextInt(14));
            } else {
                messageCall(random.nextInt(16));
            }
        }
    }

    /** Without some domains and a message with fields at first, hardly a signature would hold. */
    private void openSigned() {
        for (int d = 0; d < 5; d++) {
            int parent = random.nextInt(d + 1) - 1;
            boolean suffix = random.nextInt(4) == 0;
            same("domain", x.domain(parent, suffix), model.domain(parent, suffix));
        }
        typeAll(HEAD);
    }

    private void signedCall(int which) {
        boolean fields = random.nextBoolean();
        boolean body = random.nextBoolean();
        int d = someDomain();
        switch (which) {
            case 0, 1 -> keyCall(d);
            case 2, 3, 4 -> signCall(d, fields, body);
            case 5 -> wishCall(d);
            case 6 -> typeAll(some(TYPED, random.nextInt(4)));
            case 7 -> listAll(some(LISTED, random.nextInt(4)));
            case 8 -> {
                clearBoth();
                typeAll(HEAD.substring(0, random.nextInt(HEAD.length() + 1)));
            }
            case 9, 10, 11, 12 -> holdsCall();
            default -> verdictCall(d, someDomain());
        }
    }

    /** What calls behind the last one answer is free, so it is not compared. */
    private void same(String call, long got, long want) {
        calls++;
        if (calls <= CALLS) {
            Due.same("run " + run + ", call " + calls + ": " + call, got, want);
        }
    }

    private void same(String call, boolean got, boolean want) {
        same(call, got ? 1 : 0, want ? 1 : 0);
    }

    private int someDomain() {
        return random.nextInt(20) == 0 ? random.nextInt(15) - 2 : random.nextInt(5);
    }

    private int someTarget() {
        return random.nextInt(4) == 0 ? -1 : someDomain();
    }

    private int someNumber() {
        int number = random.nextInt(3);
        return random.nextInt(4) == 0 ? number << 30 : number;
    }

    private int someLength() {
        int[] lengths = {32, 32, 32, 31, 30, 1, 2, 0, 33, -1};
        return lengths[random.nextInt(lengths.length)];
    }

    private void domainCall(int which) {
        int d = someDomain();
        int e = someDomain();
        int number = someNumber();
        switch (which) {
            case 0 -> {
                int parent = random.nextInt(3) == 0 ? -1 : d;
                boolean suffix = random.nextInt(4) == 0;
                same("domain", x.domain(parent, suffix), model.domain(parent, suffix));
            }
            case 1 -> {
                if (random.nextInt(4) == 0) {
                    same("address", x.address(d, number), model.address(d, number));
                }
            }
            case 2 -> same("exchanger", x.exchanger(d, e), model.exchanger(d, e));
            case 3, 4 -> termCall(d);
            case 5 -> keyCall(d);
            case 6 -> wishCall(d);
            case 7, 8, 9, 10 -> {
                same("check(" + number + ", " + d + ")", x.check(number, d), model.check(number, d));
                counts();
            }
            default -> verdictCall(d, e);
        }
    }

    private void verdictCall(int sender, int author) {
        int number = someNumber();
        String call = "verdict(" + number + ", " + sender + ", " + author + ")";
        same(call, x.verdict(number, sender, author), model.verdict(number, sender, author));
        counts();
    }

    private void wishCall(int d) {
        int own = random.nextInt(random.nextInt(5) == 0 ? 4 : 3);
        int below = random.nextInt(random.nextInt(5) == 0 ? 4 : 3);
        boolean sender = random.nextBoolean();
        boolean signer = random.nextBoolean();
        same("wish", x.wish(d, own, below, sender, signer), model.wish(d, own, below, sender, signer));
    }

    private void termCall(int d) {
        int qualifier = random.nextInt(10) == 0 ? random.nextInt(7) - 1 : 1 + random.nextInt(4);
        int kind = random.nextInt(10) == 0 ? random.nextInt(9) - 1 : 1 + random.nextInt(6);
        int a = kind == 1 ? someNumber() : someTarget();
        int length = someLength();
        String call = "term(" + d + ", " + qualifier + ", " + kind + ", " + a + ", " + length + ")";
        same(call, x.term(d, qualifier, kind, a, length), model.term(d, qualifier, kind, a, length));
    }

    private void keyCall(int d) {
        int modulus = random.nextBoolean() ? random.nextInt(5) : random.nextInt();
        int exponent = random.nextBoolean() ? random.nextInt(4) : random.nextInt();
        same("key", x.key(d, modulus, exponent), model.key(d, modulus, exponent));
    }

    private void counts() {
        same("queries", x.queries(), model.queries());
        same("empties", x.empties(), model.empties());
    }

    private void messageCall(int which) {
        boolean fields = random.nextBoolean();
        boolean body = random.nextBoolean();
        switch (which) {
            case 0 -> {
                if (random.nextInt(6) == 0) {
                    clearBoth();
                }
            }
            case 1 -> {
                String heads = HEAD.repeat(random.nextInt(6) == 0 ? 4 : 1);
                typeAll(heads.substring(0, random.nextInt(heads.length() + 1)));
            }
            case 2, 3 -> typeAll(some(TYPED, random.nextInt(12)));
            case 4 -> typeAll("\n");
            case 5, 6 -> listAll(some(LISTED, random.nextInt(6)));
            case 7 -> same("fields", x.fields(), model.fields());
            case 8 -> same("length", x.length(fields, body), model.length(fields, body));
            case 9, 10 -> {
                int i = random.nextInt(60) - 2;
                same("at " + i, x.at(fields, body, i), model.at(fields, body, i));
            }
            case 11, 12 -> same("digest", x.digest(fields, body), model.digest(fields, body));
            case 13 -> signCall(someDomain(), fields, body);
            default -> holdsCall();
        }
    }

    private void clearBoth() {
        x.clear();
        model.clear();
        calls++;
    }

    /** The digest itself is a signature that holds for each key with the exponent 1. */
    private void signCall(int d, boolean fields, boolean body) {
        int[] numbers = {random.nextInt(5) - 2, random.nextInt(), model.digest(fields, body)};
        int s = numbers[random.nextInt(numbers.length)];
        same("sign", x.sign(d, fields, body, s), model.sign(d, fields, body, s));
    }

    private void holdsCall() {
        int i = random.nextInt(5) - 1;
        same("holds " + i, x.holds(i), model.holds(i));
    }

    private String some(String from, int count) {
        StringBuilder text = new StringBuilder();
        for (int i = 0; i < count; i++) {
            text.append(from.charAt(random.nextInt(from.length())));
        }
        return text.toString();
    }

    private void listAll(String text) {
        for (char c : text.toCharArray()) {
            same("list", x.list(c), model.list(c));
        }
    }

    private void typeAll(String text) {
        for (char c : text.toCharArray()) {
            same("type", x.type(c), model.type(c));
        }
    }
}
