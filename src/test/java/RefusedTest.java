import java.util.ArrayList;
import java.util.List;
import java.util.function.Supplier;
import java.util.function.ToLongFunction;

/**
 * A call that is refused (a negative number, or false) changes nothing: an object that refused it
 * answers everything that can be asked like one that never got it.
 */
public final class RefusedTest {
    private static final int[] NO_DOMAINS = {Integer.MIN_VALUE, -2, -1, 12, Integer.MAX_VALUE};
    private static final boolean[] BOTH = {false, true};

    private record Call(String name, long due, ToLongFunction<MailVerdicts> call) {
    }

    public static void main(String[] args) {
        compare("new", MailVerdicts::new, always(), ofNewOnes());
        compare("half full", RefusedTest::halfFull, always(), ofHalfFullOnes());
        compare("full", RefusedTest::full, always(), ofFullOnes());
        compare("ill-formed", RefusedTest::illFormed, always(), ofIllFormedOnes());
        Due.end();
    }

    private static void compare(
            String state, Supplier<MailVerdicts> maker, List<Call> refused, List<Call> more) {
        Due.about("A call that is refused changes nothing, " + state);
        List<Call> all = new ArrayList<>(refused);
        all.addAll(more);
        List<Long> due = answers(maker.get());
        for (Call each : all) {
            MailVerdicts x = maker.get();
            Due.same(each.name(), each.call().applyAsLong(x), each.due());
            Due.same(each.name() + " again", each.call().applyAsLong(x), each.due());
            List<Long> got = answers(x);
            for (int i = 0; i < due.size(); i++) {
                Due.same("question " + i + " after " + each.name(), got.get(i), due.get(i));
            }
        }
    }

    private static long of(boolean answer) {
        return answer ? 1 : 0;
    }

    /** Calls that every object refuses. */
    private static List<Call> always() {
        List<Call> calls = new ArrayList<>();
        for (int d : NO_DOMAINS) {
            if (d != -1) {
                calls.add(new Call("domain(" + d + ")", -1, x -> x.domain(d, true)));
            }
            for (int kind = 0; kind <= 6; kind++) {
                int looked = kind;
                calls.add(new Call("term(" + d + "), kind " + kind, -1, x -> x.term(d, 2, looked, 0, 0)));
            }
            calls.add(new Call("address(" + d + ")", 0, x -> of(x.address(d, 1))));
            calls.add(new Call("exchanger(" + d + ", 0)", 0, x -> of(x.exchanger(d, 0))));
            calls.add(new Call("exchanger(0, " + d + ")", 0, x -> of(x.exchanger(0, d))));
            calls.add(new Call("key(" + d + ")", 0, x -> of(x.key(d, 5, 1))));
            calls.add(new Call("wish(" + d + ")", 0, x -> of(x.wish(d, 1, 1, true, true))));
            calls.add(new Call("check(" + d + ")", -1, x -> x.check(9, d)));
            calls.add(new Call("sign(" + d + ")", -1, x -> x.sign(d, true, true, 0)));
            calls.add(new Call("verdict(" + d + ", 0)", -1, x -> x.verdict(9, d, 0)));
            calls.add(new Call("verdict(0, " + d + ")", -1, x -> x.verdict(9, 0, d)));
            calls.add(new Call("at(" + d + ")", -1, x -> x.at(true, false, d < 0 ? d : 242)));
            calls.add(new Call("holds(" + d + ")", 0, x -> of(x.holds(d))));
        }
        int[] noSigns = {0, 9, 11, 31, 127, 65535};
        for (int c : noSigns) {
            calls.add(new Call("type(" + c + ")", 0, x -> of(x.type((char) c))));
            calls.add(new Call("list(" + c + ")", 0, x -> of(x.list((char) c))));
        }
        calls.add(new Call("list(32)", 0, x -> of(x.list(' '))));
        calls.add(new Call("list(10)", 0, x -> of(x.list('\n'))));
        return calls;
    }

    private static List<Call> ofNewOnes() {
        List<Call> calls = new ArrayList<>();
        calls.add(new Call("domain(0)", -1, x -> x.domain(0, false)));
        calls.add(new Call("check(0)", -1, x -> x.check(9, 0)));
        calls.add(new Call("sign(0)", -1, x -> x.sign(0, true, true, 0)));
        calls.add(new Call("verdict(0, 0)", -1, x -> x.verdict(9, 0, 0)));
        calls.add(new Call("holds(0)", 0, x -> of(x.holds(0))));
        calls.add(new Call("at(0)", -1, x -> x.at(true, true, 0)));
        return calls;
    }

    /** Calls that are refused by what they say of a domain that is there. */
    private static List<Call> ofHalfFullOnes() {
        List<Call> calls = new ArrayList<>();
        calls.add(new Call("domain(4)", -1, x -> x.domain(4, false)));
        calls.add(new Call("exchanger(0, 4)", 0, x -> of(x.exchanger(0, 4))));
        calls.add(new Call("verdict(0, 4)", -1, x -> x.verdict(9, 0, 4)));
        calls.add(new Call("verdict(4, 0)", -1, x -> x.verdict(9, 4, 0)));
        calls.add(new Call("holds(2)", 0, x -> of(x.holds(2))));
        addWrongTerms(calls);
        int[][] keys = {{1, 1}, {0, 1}, {-7, 1}, {Integer.MIN_VALUE, 1}, {7, 0}, {7, -1}, {1, 0}};
        for (int[] key : keys) {
            calls.add(new Call("key(0, " + key[0] + ", " + key[1] + ")", 0, x -> of(x.key(0, key[0], key[1]))));
        }
        int[][] wishes = {{3, 0}, {-1, 0}, {0, 3}, {0, -1}, {3, 3}};
        for (int[] wish : wishes) {
            String name = "wish(0, " + wish[0] + ", " + wish[1] + ")";
            calls.add(new Call(name, 0, x -> of(x.wish(0, wish[0], wish[1], true, true))));
            calls.add(new Call(name + " of 3", 0, x -> of(x.wish(3, wish[0], wish[1], false, false))));
        }
        return calls;
    }

    private static void addWrongTerms(List<Call> calls) {
        for (int kind = 0; kind <= 6; kind++) {
            int looked = kind;
            if (kind != 6) {
                calls.add(new Call("qualifier 0, " + kind, -1, x -> x.term(3, 0, looked, 0, 0)));
                calls.add(new Call("qualifier 5, " + kind, -1, x -> x.term(3, 5, looked, 0, 0)));
            }
            if (kind >= 1 && kind <= 3) {
                calls.add(new Call("length -1, " + kind, -1, x -> x.term(3, 2, looked, 0, -1)));
                calls.add(new Call("length 33, " + kind, -1, x -> x.term(3, 2, looked, 0, 33)));
            }
            if (kind >= 2) {
                calls.add(new Call("t 4, " + kind, -1, x -> x.term(3, 2, looked, 4, 0)));
                calls.add(new Call("t -2, " + kind, -1, x -> x.term(3, 2, looked, -2, 0)));
            }
        }
        calls.add(new Call("kind -1", -1, x -> x.term(3, 2, -1, 0, 0)));
        calls.add(new Call("kind 7", -1, x -> x.term(3, 2, 7, 0, 0)));
        calls.add(new Call("a second LEAD", -2, x -> x.term(0, 2, 6, 2, 0)));
    }

    private static List<Call> ofFullOnes() {
        List<Call> calls = new ArrayList<>();
        for (boolean suffix : BOTH) {
            calls.add(new Call("the thirteenth domain", -1, x -> x.domain(-1, suffix)));
            calls.add(new Call("the thirteenth domain below 3", -1, x -> x.domain(3, suffix)));
        }
        calls.add(new Call("the fourth address", 0, x -> of(x.address(0, 9))));
        calls.add(new Call("the fourth exchanger", 0, x -> of(x.exchanger(0, 3))));
        for (int kind = 0; kind <= 6; kind++) {
            int looked = kind;
            calls.add(new Call("the ninth term, " + kind, -2, x -> x.term(0, 2, looked, 1, 0)));
        }
        calls.add(new Call("character 241", 0, x -> of(x.type('z'))));
        calls.add(new Call("line end 241", 0, x -> of(x.type('\n'))));
        calls.add(new Call("character 61 of the list", 0, x -> of(x.list('b'))));
        calls.add(new Call("colon 61 of the list", 0, x -> of(x.list(':'))));
        calls.add(new Call("the fourth signature", -2, x -> x.sign(0, true, true, 0)));
        calls.add(new Call("holds(3)", 0, x -> of(x.holds(3))));
        return calls;
    }

    private static List<Call> ofIllFormedOnes() {
        List<Call> calls = new ArrayList<>();
        calls.add(new Call("fields()", -1, MailVerdicts::fields));
        for (boolean fields : BOTH) {
            for (boolean body : BOTH) {
                calls.add(new Call("length", -1, x -> x.length(fields, body)));
                calls.add(new Call("at(0)", -1, x -> x.at(fields, body, 0)));
                calls.add(new Call("digest", -1, x -> x.digest(fields, body)));
            }
        }
        calls.add(new Call("holds(0)", 0, x -> of(x.holds(0))));
        calls.add(new Call("holds(1)", 0, x -> of(x.holds(1))));
        return calls;
    }

    /** Domains 0 and 1 have everything, 2 and 3 have little; there is room for more of all. */
    private static MailVerdicts halfFull() {
        MailVerdicts x = new MailVerdicts();
        x.domain(-1, false);
        x.domain(0, false);
        x.domain(0, true);
        x.domain(2, false);
        x.address(0, 5);
        x.address(0, 6);
        x.address(1, 7);
        x.exchanger(0, 1);
        x.exchanger(0, 3);
        x.term(0, 4, 2, -1, 32);
        x.term(0, 2, 3, -1, 31);
        x.term(0, 0, 6, 1, 0);
        x.term(1, 3, 5, 3, 0);
        x.term(1, 2, 1, 9, 32);
        x.key(0, 5, 1);
        x.key(1, 7, 3);
        x.wish(0, 1, 2, false, false);
        x.check(20, 0);
        Due.typed(x, "A: 1 \nB:2\n\nx");
        Due.listed(x, "b:a");
        x.sign(0, true, true, x.digest(true, true) % 5);
        x.sign(1, false, true, 2);
        return x;
    }

    private static MailVerdicts illFormed() {
        MailVerdicts x = halfFull();
        x.clear();
        Due.typed(x, "A:1\nB");
        Due.listed(x, "a");
        x.sign(0, true, true, 0);
        x.sign(1, false, false, 1);
        return x;
    }

    private static MailVerdicts full() {
        MailVerdicts x = new MailVerdicts();
        for (int d = 0; d < 12; d++) {
            x.domain(d - 1, d == 4);
        }
        for (int i = 0; i < 3; i++) {
            x.address(0, 5 + i);
            x.exchanger(0, 1 + i);
        }
        x.address(1, 8);
        x.term(0, 0, 6, 1, 0);
        x.term(0, 4, 2, -1, 32);
        x.term(0, 2, 3, -1, 32);
        for (int i = 0; i < 5; i++) {
            x.term(0, 3, 1, 20 + i, 32);
        }
        x.term(1, 3, 0, 0, 0);
        x.key(0, 5, 1);
        x.wish(0, 1, 2, false, false);
        x.check(20, 0);
        Due.typed(x, "A:1\nB: 2\n\n" + "y".repeat(230));
        Due.listed(x, "a:" + "c".repeat(58));
        for (int s = 0; s < 3; s++) {
            x.sign(0, true, true, s);
        }
        return x;
    }

    /** Asks all that can be asked, at the end by filling what has room; some 150 calls. */
    private static List<Long> answers(MailVerdicts x) {
        List<Long> got = new ArrayList<>();
        got.add((long) x.queries());
        got.add((long) x.empties());
        askMessage(x, got);
        for (int i = 0; i < 4; i++) {
            got.add(of(x.holds(i)));
        }
        int[] numbers = {5, 7, 9, 20};
        for (int number : numbers) {
            for (int d = 0; d < 5; d++) {
                got.add((long) x.check(number, d));
                got.add((long) x.queries() * 10 + x.empties());
            }
        }
        for (int author = 0; author < 4; author++) {
            got.add((long) x.verdict(5, 0, author));
            got.add((long) x.verdict(9, 1, author));
        }
        fill(x, got);
        return got;
    }

    private static void askMessage(MailVerdicts x, List<Long> got) {
        got.add((long) x.fields());
        for (boolean fields : BOTH) {
            for (boolean body : BOTH) {
                got.add((long) x.length(fields, body));
                got.add((long) x.digest(fields, body));
            }
        }
    }

    private static void fill(MailVerdicts x, List<Long> got) {
        got.add((long) x.sign(0, true, true, 1));
        got.add((long) x.domain(3, false));
        for (int d = 0; d < 4; d += 3) {
            for (int i = 0; i < 3; i++) {
                got.add(of(x.address(d, 30)));
                got.add(of(x.exchanger(d, 1)));
            }
            got.add((long) x.term(d, 2, 6, 1, 0));
            got.add((long) x.term(d, 2, 5, -1, 0));
            got.add((long) x.check(31, d));
            got.add((long) x.queries() * 10 + x.empties());
        }
        got.add(of(x.list(':')));
        got.add(of(x.list('b')));
        got.add(of(x.type(':')));
        askMessage(x, got);
    }
}
