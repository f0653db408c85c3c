import java.math.BigInteger;
import java.util.ArrayList;
import java.util.Arrays;
import java.util.List;
import java.util.Locale;

/** The document told once more, with texts, lists and an exception for what ends everything. */
final class PlainModel {
    private static final class EndsAll extends RuntimeException {
        private static final long serialVersionUID = 1L;
    }

    private record Term(int qualifier, int kind, int a, int length) { }

    private record Wish(int own, int below, boolean sender, boolean signer) { }

    private record Signature(int d, boolean fields, boolean body, int s) { }

    private record Field(String name, List<String> lines) { }

    private static final class Domain {
        int parent;
        boolean suffix;
        final List<Integer> addresses = new ArrayList<>();
        final List<Integer> exchangers = new ArrayList<>();
        final List<Term> terms = new ArrayList<>();
        BigInteger modulus;
        BigInteger exponent;
        Wish wish;
    }

    private final List<Domain> domains = new ArrayList<>();
    private final List<Signature> signatures = new ArrayList<>();
    private String message = "";
    private String list = "";
    private int queries;
    private int empties;

    private boolean there(int d) {
        return 0 <= d && d < domains.size();
    }

    int domain(int parent, boolean suffix) {
        if (domains.size() >= 12 || parent != -1 && !there(parent)) {
            return -1;
        }
        Domain made = new Domain();
        made.parent = parent;
        made.suffix = suffix;
        domains.add(made);
        return domains.size() - 1;
    }

    boolean address(int d, int number) {
        return there(d) && domains.get(d).addresses.size() < 3 && domains.get(d).addresses.add(number);
    }

    boolean exchanger(int d, int e) {
        return there(d) && there(e) && domains.get(d).exchangers.size() < 3 && domains.get(d).exchangers.add(e);
    }

    int term(int d, int qualifier, int kind, int a, int length) {
        if (!there(d) || kind < 0 || kind > 6) {
            return -1;
        }
        boolean qualified = kind == 6 || Arrays.asList(1, 2, 3, 4).contains(qualifier);
        boolean reached = kind < 2 || a == -1 || there(a);
        boolean measured = kind == 0 || kind > 3 || length >= 0 && length <= 32;
        if (!qualified || !reached || !measured) {
            return -1;
        }
        List<Term> policy = domains.get(d).terms;
        if (policy.size() == 8 || kind == 6 && policy.stream().anyMatch(t -> t.kind == 6)) {
            return -2;
        }
        policy.add(new Term(qualifier, kind, kind >= 2 && a == -1 ? d : a, length));
        return policy.size();
    }

    boolean key(int d, int modulus, int exponent) {
        if (!there(d) || modulus < 2 || exponent < 1) {
            return false;
        }
        domains.get(d).modulus = BigInteger.valueOf(modulus);
        domains.get(d).exponent = BigInteger.valueOf(exponent);
        return true;
    }

    boolean wish(int d, int own, int below, boolean sender, boolean signer) {
        if (!there(d) || own < 0 || own > 2 || below < 0 || below > 2) {
            return false;
        }
        domains.get(d).wish = new Wish(own, below, sender, signer);
        return true;
    }

    int check(int number, int d) {
        if (!there(d)) {
            return -1;
        }
        queries = 0;
        empties = 0;
        try {
            return result(number, d);
        } catch (EndsAll end) {
            return 5;
        }
    }

    private int result(int number, int d) {
        List<Term> policy = domains.get(d).terms;
        if (policy.isEmpty()) {
            return 0;
        }
        for (Term t : policy) {
            if (t.kind != 6 && matches(number, t)) {
                return t.qualifier;
            }
        }
        for (Term t : policy) {
            if (t.kind == 6) {
                query();
                int result = result(number, t.a);
                if (result == 0) {
                    throw new EndsAll();
                }
                return result;
            }
        }
        return 1;
    }

    private boolean matches(int number, Term t) {
        if (t.kind == 0) {
            return true;
        }
        if (t.kind == 1) {
            return alike(number, t.a, t.length);
        }
        query();
        if (t.kind == 4) {
            int result = result(number, t.a);
            if (result == 0) {
                throw new EndsAll();
            }
            return result == 2;
        }
        if (t.kind == 5) {
            emptyIf(domains.get(t.a).addresses.isEmpty());
            return !domains.get(t.a).addresses.isEmpty();
        }
        if (t.kind == 2) {
            return oneIsAlike(number, t.a, t.length);
        }
        emptyIf(domains.get(t.a).exchangers.isEmpty());
        for (int e : domains.get(t.a).exchangers) {
            if (oneIsAlike(number, e, t.length)) {
                return true;
            }
        }
        return false;
    }

    private boolean oneIsAlike(int number, int d, int length) {
        emptyIf(domains.get(d).addresses.isEmpty());
        return domains.get(d).addresses.stream().anyMatch(a -> alike(number, a, length));
    }

    private static boolean alike(int one, int other, int length) {
        return bits(one).substring(0, length).equals(bits(other).substring(0, length));
    }

    private static String bits(int number) {
        String bits = Integer.toBinaryString(number);
        return "0".repeat(32 - bits.length()) + bits;
    }

    private void query() {
        if (queries == 10) {
            throw new EndsAll();
        }
        queries++;
    }

    private void emptyIf(boolean empty) {
        if (empty && empties == 2) {
            throw new EndsAll();
        }
        empties += empty ? 1 : 0;
    }

    int queries() {
        return queries;
    }

    int empties() {
        return empties;
    }

    boolean type(char c) {
        if (message.length() >= 240 || c != '\n' && (c < ' ' || c > '~')) {
            return false;
        }
        message += c;
        return true;
    }

    boolean list(char c) {
        if (list.length() >= 60 || !String.valueOf(c).matches("[A-Za-z0-9:-]")) {
            return false;
        }
        list += c;
        return true;
    }

    void clear() {
        message = "";
        list = "";
        signatures.clear();
    }

    private List<String> lines() {
        List<String> lines = new ArrayList<>(Arrays.asList(message.split("\n", -1)));
        if (lines.get(lines.size() - 1).isEmpty()) {
            lines.remove(lines.size() - 1);
        }
        return lines;
    }

    private List<Field> parsed() {
        List<String> lines = lines();
        int end = lines.contains("") ? lines.indexOf("") : lines.size();
        List<Field> fields = new ArrayList<>();
        for (String line : lines.subList(0, end)) {
            if (line.startsWith(" ")) {
                if (fields.isEmpty()) {
                    return null;
                }
                fields.get(fields.size() - 1).lines.add(line);
            } else if (line.matches("[A-Za-z0-9-]+:.*")) {
                String name = line.substring(0, line.indexOf(':')).toLowerCase(Locale.ROOT);
                fields.add(new Field(name, new ArrayList<>(List.of(line))));
            } else {
                return null;
            }
        }
        return fields.size() > 12 ? null : fields;
    }

    int fields() {
        List<Field> fields = parsed();
        return fields == null ? -1 : fields.size();
    }

    private String form(boolean fields, boolean body) {
        List<Field> left = parsed();
        if (left == null) {
            return null;
        }
        StringBuilder form = new StringBuilder();
        for (String name : list.toLowerCase(Locale.ROOT).split(":")) {
            for (int i = left.size() - 1; i >= 0; i--) {
                if (left.get(i).name.equals(name)) {
                    form.append(fieldForm(left.remove(i), fields));
                    break;
                }
            }
        }
        return form + bodyForm(body);
    }

    private static String fieldForm(Field field, boolean relaxed) {
        if (!relaxed) {
            return String.join("\n", field.lines) + "\n";
        }
        String joined = String.join("", field.lines).substring(field.name.length() + 1);
        return field.name + ":" + joined.replaceAll(" +", " ").strip() + "\n";
    }

    private String bodyForm(boolean relaxed) {
        List<String> lines = lines();
        List<String> body = new ArrayList<>();
        if (lines.contains("")) {
            body.addAll(lines.subList(lines.indexOf("") + 1, lines.size()));
        }
        if (relaxed) {
            body.replaceAll(line -> line.replaceAll(" +", " ").stripTrailing());
        }
        while (!body.isEmpty() && body.get(body.size() - 1).isEmpty()) {
            body.remove(body.size() - 1);
        }
        if (body.isEmpty()) {
            return relaxed ? "" : "\n";
        }
        return String.join("\n", body) + "\n";
    }

    int length(boolean fields, boolean body) {
        String form = form(fields, body);
        return form == null ? -1 : form.length();
    }

    int at(boolean fields, boolean body, int i) {
        String form = form(fields, body);
        return form == null || i < 0 || i >= form.length() ? -1 : form.charAt(i);
    }

    int digest(boolean fields, boolean body) {
        String form = form(fields, body);
        if (form == null) {
            return -1;
        }
        BigInteger sum = BigInteger.ZERO;
        for (char c : form.toCharArray()) {
            sum = sum.multiply(BigInteger.valueOf(257)).add(BigInteger.valueOf(c + 1L));
        }
        return sum.mod(BigInteger.valueOf(2147483647)).intValueExact();
    }

    int sign(int d, boolean fields, boolean body, int s) {
        if (!there(d)) {
            return -1;
        }
        if (signatures.size() == 3) {
            return -2;
        }
        signatures.add(new Signature(d, fields, body, s));
        return signatures.size();
    }

    boolean holds(int i) {
        if (i < 0 || i >= signatures.size()) {
            return false;
        }
        Signature signature = signatures.get(i);
        Domain signer = domains.get(signature.d);
        int digest = digest(signature.fields, signature.body);
        if (digest == -1 || signer.modulus == null) {
            return false;
        }
        BigInteger power = BigInteger.valueOf(signature.s).modPow(signer.exponent, signer.modulus);
        return power.equals(BigInteger.valueOf(digest).mod(signer.modulus));
    }

    private int organisation(int d) {
        Domain domain = domains.get(d);
        if (domain.suffix || domain.parent == -1 || domains.get(domain.parent).suffix) {
            return d;
        }
        return organisation(domain.parent);
    }

    int verdict(int number, int sender, int author) {
        if (!there(sender) || !there(author)) {
            return -1;
        }
        boolean passes = check(number, sender) == 2;
        Wish own = domains.get(author).wish;
        Wish wish = own == null ? domains.get(organisation(author)).wish : own;
        if (wish == null) {
            return 0;
        }
        boolean believed = passes && fits(sender, author, wish.sender);
        for (int i = 0; i < signatures.size(); i++) {
            believed = believed || holds(i) && fits(signatures.get(i).d, author, wish.signer);
        }
        return believed ? 1 : 2 + (own == null ? wish.below : wish.own);
    }

    private boolean fits(int d, int author, boolean strictly) {
        return d == author || !strictly && organisation(d) == organisation(author);
    }
}
