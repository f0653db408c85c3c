import java.util.function.ToLongFunction;

/** An object is used for at most 512 calls: the last of them still answers what is due. */
public final class LastCallTest {
    private static final int CALLS = 512;
    private static final String TEXT = "A: 1\nB:2\n\n" + "x ".repeat(114) + "x";
    private static final String LIST = "b:a:" + "c".repeat(55);

    public static void main(String[] args) {
        Due.about("What it is: at most 512 calls");
        last("domain", 3, x -> x.domain(1, false));
        last("address", 1, x -> x.address(2, 9) ? 1 : 0);
        last("exchanger", 1, x -> x.exchanger(2, 1) ? 1 : 0);
        last("term", 3, x -> x.term(1, 2, 0, 0, 0));
        last("key", 1, x -> x.key(2, 2, 1) ? 1 : 0);
        last("wish", 1, x -> x.wish(2, 2, 2, true, true) ? 1 : 0);
        last("check", 2, x -> x.check(5, 1));
        last("queries", 2, MailVerdicts::queries);
        last("empties", 1, MailVerdicts::empties);
        last("type", 1, x -> x.type('x') ? 1 : 0);
        last("list", 1, x -> x.list('x') ? 1 : 0);
        last("fields", 2, MailVerdicts::fields);
        last("length", 4 + 4 + 230, x -> x.length(true, true));
        last("at", 'b', x -> x.at(true, true, 0));
        last("digest", digestOf("b:2\na:1\n" + TEXT.substring(10) + "\n"), x -> x.digest(true, true));
        last("sign", 2, x -> x.sign(2, true, true, 0));
        last("holds", 1, x -> x.holds(0) ? 1 : 0);
        last("verdict", 4, x -> x.verdict(6, 1, 2));
        Due.end();
    }

    private static long digestOf(String text) {
        long digest = 0;
        for (char c : text.toCharArray()) {
            digest = (257 * digest + c + 1) % 2147483647;
        }
        return digest;
    }

    private static void last(String name, long due, ToLongFunction<MailVerdicts> call) {
        MailVerdicts x = Due.message(TEXT, LIST);
        int calls = TEXT.length() + LIST.length() + made(x);
        while (calls < CALLS - 1) {
            x.queries();
            calls++;
        }
        Due.same("the last call, " + name, call.applyAsLong(x), due);
    }

    /** Answers how many calls it took. */
    private static int made(MailVerdicts x) {
        x.domain(-1, true);
        x.domain(0, false);
        x.domain(1, false);
        x.address(1, 5);
        x.term(1, 4, 5, 2, 0);
        x.term(1, 2, 2, -1, 32);
        x.wish(1, 0, 2, true, true);
        x.key(1, 2, 1);
        x.sign(1, true, true, x.digest(true, true) % 2);
        x.check(5, 1);
        return 11;
    }
}
