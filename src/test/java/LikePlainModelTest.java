import java.util.Random;

/** Long runs of calls, the same ones each time, on the program and on the plain model. */
public final class LikePlainModelTest {
    private static final int RUNS = 3000;
    private static final int CALLS = 512;
    private static final String TYPED = "aAbB-:    \n\n\nx";
    private static final String HEAD = "A: x\nb:y \n z\na:  q  r\nB:\n";
    private static final String LISTED = "aAbB::-";

    private final Random random;
    private final MailVerdicts x = new MailVerdicts();
    private final PlainModel model = new PlainModel();
    private final int run;
    private int calls;

    private LikePlainModelTest(int run) {
        this.run = run;
        random = new Random(run);
    }

    public static void main(String[] args) {
        for (int run = 0; run < RUNS; run++) {
            new LikePlainModelTest(run).go();
        }
        Due.end();
    }

    private void go() {
        int kind = run % 3;
        while (calls < CALLS) {
            if (kind == 0 || kind == 2 && random.nextBoolean()) {
                domainCall(random.nextInt(14));
            } else {
                messageCall(random.nextInt(16));
            }
        }
    }

    /** What calls behind the last one answer is free, so it is not compared. */
    private void same(String call, long got, long want) {
        calls++;
        if (calls <= CALLS) {
            Due.same("run " + run + ", call " + calls + ": " + call, got, want);
        }
    }

    private void same(String call, boolean got, boolean want) {
        same(call, got ? 1 : 0, want ? 1 : 0);
    }

    private int someDomain() {
        return random.nextInt(20) == 0 ? random.nextInt(15) - 2 : random.nextInt(5);
    }

    private int someTarget() {
        return random.nextInt(4) == 0 ? -1 : someDomain();
    }

    private int someNumber() {
        int number = random.nextInt(3);
        return random.nextInt(4) == 0 ? number << 30 : number;
    }

    private int someLength() {
        int[] lengths = {32, 32, 32, 31, 30, 1, 2, 0, 33, -1};
        return lengths[random.nextInt(lengths.length)];
    }

    private void domainCall(int which) {
        int d = someDomain();
        int e = someDomain();
        int number = someNumber();
        boolean one = random.nextBoolean();
        boolean other = random.nextBoolean();
        switch (which) {
            case 0 -> {
                int parent = random.nextInt(3) == 0 ? -1 : d;
                boolean suffix = random.nextInt(4) == 0;
                same("domain", x.domain(parent, suffix), model.domain(parent, suffix));
            }
            case 1 -> {
                if (random.nextInt(4) == 0) {
                    same("address", x.address(d, number), model.address(d, number));
                }
            }
            case 2 -> same("exchanger", x.exchanger(d, e), model.exchanger(d, e));
            case 3, 4 -> termCall(d);
            case 5 -> keyCall(d);
            case 6 -> {
                int own = random.nextInt(random.nextInt(5) == 0 ? 4 : 3);
                int below = random.nextInt(3);
                same("wish", x.wish(d, own, below, one, other), model.wish(d, own, below, one, other));
            }
            case 7, 8, 9, 10 -> {
                same("check(" + number + ", " + d + ")", x.check(number, d), model.check(number, d));
                counts();
            }
            default -> {
                same("verdict", x.verdict(number, d, e), model.verdict(number, d, e));
                counts();
            }
        }
    }

    private void termCall(int d) {
        int qualifier = random.nextInt(10) == 0 ? random.nextInt(7) - 1 : 1 + random.nextInt(4);
        int kind = random.nextInt(10) == 0 ? random.nextInt(9) - 1 : 1 + random.nextInt(6);
        int a = kind == 1 ? someNumber() : someTarget();
        int length = someLength();
        String call = "term(" + d + ", " + qualifier + ", " + kind + ", " + a + ", " + length + ")";
        same(call, x.term(d, qualifier, kind, a, length), model.term(d, qualifier, kind, a, length));
    }

    private void keyCall(int d) {
        int modulus = random.nextBoolean() ? random.nextInt(5) : random.nextInt();
        int exponent = random.nextBoolean() ? random.nextInt(4) : random.nextInt();
        same("key", x.key(d, modulus, exponent), model.key(d, modulus, exponent));
    }

    private void counts() {
        same("queries", x.queries(), model.queries());
        same("empties", x.empties(), model.empties());
    }

    private void messageCall(int which) {
        boolean fields = random.nextBoolean();
        boolean body = random.nextBoolean();
        switch (which) {
            case 0 -> {
                if (random.nextInt(6) == 0) {
                    x.clear();
                    model.clear();
                    calls++;
                }
            }
            case 1 -> {
                String heads = HEAD.repeat(random.nextInt(6) == 0 ? 4 : 1);
                typeAll(heads.substring(0, random.nextInt(heads.length() + 1)));
            }
            case 2, 3 -> typeAll(some(TYPED, random.nextInt(12)));
            case 4 -> typeAll("\n");
            case 5, 6 -> {
                for (char c : some(LISTED, random.nextInt(6)).toCharArray()) {
                    same("list", x.list(c), model.list(c));
                }
            }
            case 7 -> same("fields", x.fields(), model.fields());
            case 8 -> same("length", x.length(fields, body), model.length(fields, body));
            case 9, 10 -> {
                int i = random.nextInt(60) - 2;
                same("at " + i, x.at(fields, body, i), model.at(fields, body, i));
            }
            case 11, 12 -> same("digest", x.digest(fields, body), model.digest(fields, body));
            case 13 -> {
                int d = someDomain();
                int s = random.nextBoolean() ? random.nextInt(5) - 2 : random.nextInt();
                same("sign", x.sign(d, fields, body, s), model.sign(d, fields, body, s));
            }
            default -> {
                int i = random.nextInt(5) - 1;
                same("holds " + i, x.holds(i), model.holds(i));
            }
        }
    }

    private String some(String from, int count) {
        StringBuilder text = new StringBuilder();
        for (int i = 0; i < count; i++) {
            text.append(from.charAt(random.nextInt(from.length())));
        }
        return text.toString();
    }

    private void typeAll(String text) {
        for (char c : text.toCharArray()) {
            same("type", x.type(c), model.type(c));
        }
    }
}
