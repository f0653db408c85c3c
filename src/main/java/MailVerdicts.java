/**
 * Says whether a message may be believed to come from the domain that it names: by a policy of
 * sending addresses, by signatures over a canonical form, and by the wish of the author's domain.
 */
public final class MailVerdicts {
    private static final int DOMAINS_MOST = 12;
    private static final int SIGNATURES_MOST = 3;
    private static final int MESSAGE_MOST = 240;
    private static final int LIST_MOST = 60;
    private static final int NOBODY = -1;
    private static final int REFUSED = -1;
    private static final int FULL = -2;

    private static final int NONE = 0;
    private static final int NEUTRAL = 1;
    private static final int PASS = 2;
    private static final int SOFT = 4;
    private static final int WRONG = 5;

    private static final int ALL = 0;
    private static final int NET = 1;
    private static final int HOST = 2;
    private static final int MAIL = 3;
    private static final int WITHIN = 4;
    private static final int KNOWN = 5;
    private static final int LEAD = 6;
    private static final int ADDRESS_BITS = 32;

    private static final int WISHES_MOST = 2;
    private static final int NO_WISH = 0;
    private static final int BELIEVED = 1;
    private static final int AS_WISHED = 2;

    private static final char LINE_END = 10;
    private static final char SPACE = 32;
    private static final char COLON = 58;
    private static final char LAST_SIGN = 126;

    private final Domain[] domains;
    private int domainCount;
    private final Checking checking;
    private final CanonicalForm form;
    private final Message message;
    private final Text names;
    private final Signature[] signatures;
    private int signatureCount;

    public MailVerdicts() {
        domains = new Domain[DOMAINS_MOST];
        checking = new Checking();
        form = new CanonicalForm();
        message = form.message;
        names = form.names;
        signatures = new Signature[SIGNATURES_MOST];
    }

    public int domain(int parent, boolean suffix) {
        Domain above = numbered(parent);
        if (domainCount == DOMAINS_MOST || above == null && parent != NOBODY) {
            return REFUSED;
        }
        domains[domainCount] = new Domain(above, suffix);
        domainCount++;
        return domainCount - 1;
    }

    public boolean address(int d, int number) {
        Domain owner = numbered(d);
        return owner != null && owner.addAddress(number);
    }

    public boolean exchanger(int d, int e) {
        Domain owner = numbered(d);
        Domain added = numbered(e);
        return owner != null && added != null && owner.addExchanger(added);
    }

    public int term(int d, int qualifier, int kind, int a, int length) {
        Domain owner = numbered(d);
        if (owner == null || kind < ALL || kind > LEAD) {
            return REFUSED;
        }
        if (kind != LEAD && (qualifier < NEUTRAL || qualifier > SOFT)) {
            return REFUSED;
        }
        if (looksAtLength(kind) && (length < 0 || length > ADDRESS_BITS)) {
            return REFUSED;
        }
        Domain target = a == NOBODY ? owner : numbered(a);
        if (looksAtDomain(kind) && target == null) {
            return REFUSED;
        }
        if (!owner.hasRoomFor(kind)) {
            return FULL;
        }
        if (kind == LEAD) {
            owner.lead = target;
        } else {
            owner.addTerm(new Term(qualifier, kind, a, target, length));
        }
        return owner.policySize();
    }

    public boolean key(int d, int modulus, int exponent) {
        Domain owner = numbered(d);
        if (owner == null || modulus < 2 || exponent < 1) {
            return false;
        }
        owner.ownKey = new Key(modulus, exponent);
        return true;
    }

    public boolean wish(int d, int own, int below, boolean sender, boolean signer) {
        Domain owner = numbered(d);
        if (owner == null || !isWish(own) || !isWish(below)) {
            return false;
        }
        owner.ownWish = new Wish(own, below, sender, signer);
        return true;
    }

    public int check(int number, int d) {
        Domain checked = numbered(d);
        return checked == null ? REFUSED : checking.begin(number, checked);
    }

    public int queries() {
        return checking.queryCount;
    }

    public int empties() {
        return checking.emptyCount;
    }

    public boolean type(char c) {
        boolean allowed = c == LINE_END || c >= SPACE && c <= LAST_SIGN;
        return allowed && message.text.append(c);
    }

    public boolean list(char c) {
        boolean allowed = c == COLON || isNameSign(c);
        return allowed && names.append(c);
    }

    public void clear() {
        message.text.cut(0);
        names.cut(0);
        signatureCount = 0;
    }

    public int fields() {
        return message.read() ? message.fieldCount : REFUSED;
    }

    public int length(boolean fields, boolean body) {
        return form.write(fields, body) ? form.text.size : REFUSED;
    }

    public int at(boolean fields, boolean body, int i) {
        return form.write(fields, body) ? form.text.codeAt(i) : REFUSED;
    }

    public int digest(boolean fields, boolean body) {
        return form.write(fields, body) ? form.text.summary() : REFUSED;
    }

    public int sign(int d, boolean fields, boolean body, int s) {
        Domain signer = numbered(d);
        if (signer == null) {
            return REFUSED;
        }
        if (signatureCount == SIGNATURES_MOST) {
            return FULL;
        }
        signatures[signatureCount] = new Signature(signer, fields, body, s);
        signatureCount++;
        return signatureCount;
    }

    public boolean holds(int i) {
        return i >= 0 && i < signatureCount && isGood(signatures[i]);
    }

    public int verdict(int number, int sender, int author) {
        Domain from = numbered(sender);
        Domain by = numbered(author);
        if (from == null || by == null) {
            return REFUSED;
        }
        // The checking comes first because its counts are asked for even when no wish is there.
        int result = checking.begin(number, from);
        Wish wish = by.ownWish != null ? by.ownWish : by.organisation().ownWish;
        if (wish == null) {
            return NO_WISH;
        }
        if (result == PASS && from.fits(by, wish.strictSender)) {
            return BELIEVED;
        }
        for (int i = 0; i < signatureCount; i++) {
            if (signatures[i].signer.fits(by, wish.strictSigner) && isGood(signatures[i])) {
                return BELIEVED;
            }
        }
        return AS_WISHED + (by.ownWish != null ? wish.own : wish.below);
    }

    private Domain numbered(int d) {
        return d >= 0 && d < domainCount ? domains[d] : null;
    }

    private boolean isGood(Signature signature) {
        Key signerKey = signature.signer.ownKey;
        return signerKey != null
                && form.write(signature.relaxedFields, signature.relaxedBody)
                && signerKey.opens(signature.number, form.text.summary());
    }

    private static boolean looksAtLength(int kind) {
        return kind == NET || kind == HOST || kind == MAIL;
    }

    private static boolean looksAtDomain(int kind) {
        return kind != ALL && kind != NET;
    }

    private static boolean isWish(int wanted) {
        return wanted >= 0 && wanted <= WISHES_MOST;
    }

    private static boolean isNameSign(int c) {
        return c >= 'A' && c <= 'Z' || c >= 'a' && c <= 'z' || c >= '0' && c <= '9' || c == '-';
    }

    private static int lowered(int c) {
        return c >= 'A' && c <= 'Z' ? c - 'A' + 'a' : c;
    }

    private static final class Domain {
        static final int ADDRESSES_MOST = 3;
        static final int EXCHANGERS_MOST = 3;
        static final int TERMS_MOST = 8;

        final Domain parent;
        final boolean suffix;
        final int[] addresses;
        int addressCount;
        final Domain[] exchangers;
        int exchangerCount;
        /** The terms but the LEAD, which is followed behind them wherever it was appended. */
        final Term[] terms;
        int termCount;
        Domain lead;
        Key ownKey;
        Wish ownWish;

        Domain(Domain parent, boolean suffix) {
            this.parent = parent;
            this.suffix = suffix;
            addresses = new int[ADDRESSES_MOST];
            exchangers = new Domain[EXCHANGERS_MOST];
            terms = new Term[TERMS_MOST];
        }

        boolean addAddress(int number) {
            if (addressCount == ADDRESSES_MOST) {
                return false;
            }
            addresses[addressCount] = number;
            addressCount++;
            return true;
        }

        boolean addExchanger(Domain added) {
            if (exchangerCount == EXCHANGERS_MOST) {
                return false;
            }
            exchangers[exchangerCount] = added;
            exchangerCount++;
            return true;
        }

        int policySize() {
            return lead == null ? termCount : termCount + 1;
        }

        boolean hasRoomFor(int kind) {
            return policySize() < TERMS_MOST && (kind != LEAD || lead == null);
        }

        void addTerm(Term added) {
            if (termCount < TERMS_MOST) {
                terms[termCount] = added;
                termCount++;
            }
        }

        Domain organisation() {
            Domain last = this;
            // A parent is always an earlier domain, so the way up ends.
            while (!suffix && last.parent != null && !last.parent.suffix) {
                last = last.parent;
            }
            return last;
        }

        boolean fits(Domain author, boolean strictly) {
            return this == author || !strictly && organisation() == author.organisation();
        }
    }

    /** A term of a policy; what its kind does not look at stands in it unused. */
    private static final class Term {
        final int qualifier;
        final int kind;
        final int number;
        final Domain target;
        final int length;

        Term(int qualifier, int kind, int number, Domain target, int length) {
            this.qualifier = qualifier;
            this.kind = kind;
            this.number = number;
            this.target = target;
            this.length = length;
        }
    }

    private static final class Key {
        final int modulus;
        final int exponent;

        Key(int modulus, int exponent) {
            this.modulus = modulus;
            this.exponent = exponent;
        }

        boolean opens(int number, int summary) {
            if (modulus < 2) {
                return false;
            }
            long factor = Math.floorMod(number, modulus);
            long power = 1;
            for (int left = exponent; left > 0; left >>= 1) {
                if ((left & 1) == 1) {
                    power = power * factor % modulus;
                }
                factor = factor * factor % modulus;
            }
            return power == summary % modulus;
        }
    }

    private static final class Wish {
        final int own;
        final int below;
        final boolean strictSender;
        final boolean strictSigner;

        Wish(int own, int below, boolean strictSender, boolean strictSigner) {
            this.own = own;
            this.below = below;
            this.strictSender = strictSender;
            this.strictSigner = strictSigner;
        }
    }

    private static final class Signature {
        final Domain signer;
        final boolean relaxedFields;
        final boolean relaxedBody;
        final int number;

        Signature(Domain signer, boolean relaxedFields, boolean relaxedBody, int number) {
            this.signer = signer;
            this.relaxedFields = relaxedFields;
            this.relaxedBody = relaxedBody;
            this.number = number;
        }
    }

    /** The checking of one address, with the counts that run on through all its policies. */
    private static final class Checking {
        static final int QUERIES_MOST = 10;
        static final int EMPTIES_MOST = 2;
        static final int MISSES = 0;
        static final int MATCHES = 1;
        static final int ENDS_ALL = 2;

        int number;
        int queryCount;
        int emptyCount;

        int begin(int address, Domain checked) {
            number = address;
            queryCount = 0;
            emptyCount = 0;
            return resultFor(checked, 0);
        }

        /** Every step down is a query that was counted, so the depth never passes their limit. */
        private int resultFor(Domain checked, int depth) {
            if (depth > QUERIES_MOST) {
                return WRONG;
            }
            if (checked.policySize() == 0) {
                return NONE;
            }
            for (int i = 0; i < checked.termCount; i++) {
                int outcome = outcomeOf(checked.terms[i], depth);
                if (outcome == ENDS_ALL) {
                    return WRONG;
                }
                if (outcome == MATCHES) {
                    return checked.terms[i].qualifier;
                }
            }
            return checked.lead == null ? NEUTRAL : resultOfLead(checked.lead, depth);
        }

        private int resultOfLead(Domain lead, int depth) {
            if (!countQuery()) {
                return WRONG;
            }
            int result = resultFor(lead, depth + 1);
            return result == NONE ? WRONG : result;
        }

        private int outcomeOf(Term looked, int depth) {
            if (looked.kind == ALL) {
                return MATCHES;
            }
            if (looked.kind == NET) {
                return beginsLike(looked.number, looked.length) ? MATCHES : MISSES;
            }
            if (!countQuery()) {
                return ENDS_ALL;
            }
            switch (looked.kind) {
                case HOST:
                    return outcomeOfHost(looked.target, looked.length);
                case MAIL:
                    return outcomeOfMail(looked.target, looked.length);
                case WITHIN:
                    return outcomeOfWithin(looked.target, depth);
                case KNOWN:
                default:
                    return looked.target.addressCount > 0 ? MATCHES : outcomeOfEmpty();
            }
        }

        private int outcomeOfHost(Domain host, int length) {
            if (host.addressCount == 0) {
                return outcomeOfEmpty();
            }
            for (int i = 0; i < host.addressCount; i++) {
                if (beginsLike(host.addresses[i], length)) {
                    return MATCHES;
                }
            }
            return MISSES;
        }

        private int outcomeOfMail(Domain receiver, int length) {
            if (receiver.exchangerCount == 0) {
                return outcomeOfEmpty();
            }
            for (int i = 0; i < receiver.exchangerCount; i++) {
                int outcome = outcomeOfHost(receiver.exchangers[i], length);
                if (outcome != MISSES) {
                    return outcome;
                }
            }
            return MISSES;
        }

        private int outcomeOfWithin(Domain other, int depth) {
            int result = resultFor(other, depth + 1);
            if (result == NONE || result == WRONG) {
                return ENDS_ALL;
            }
            return result == PASS ? MATCHES : MISSES;
        }

        private int outcomeOfEmpty() {
            if (emptyCount == EMPTIES_MOST) {
                return ENDS_ALL;
            }
            emptyCount++;
            return MISSES;
        }

        private boolean countQuery() {
            if (queryCount == QUERIES_MOST) {
                return false;
            }
            queryCount++;
            return true;
        }

        private boolean beginsLike(int other, int length) {
            // A shift by 32 would be one by 0 in Java, so no bits at all is a case of its own.
            return length == 0 || (number ^ other) >>> (ADDRESS_BITS - length) == 0;
        }
    }

    /** Its row is made once for all calls, for what a run makes is never given back. */
    private static final class Text {
        static final long DIGEST_FACTOR = 257;
        static final long DIGEST_MODULUS = 2147483647;

        final char[] signs;
        int size;

        Text(int most) {
            signs = new char[most];
        }

        boolean append(int c) {
            if (size == signs.length) {
                return false;
            }
            signs[size] = (char) c;
            size++;
            return true;
        }

        int codeAt(int i) {
            return i >= 0 && i < size ? signs[i] : -1;
        }

        void cut(int kept) {
            if (kept >= 0 && kept < size) {
                size = kept;
            }
        }

        int summary() {
            long sum = 0;
            for (int i = 0; i < size; i++) {
                sum = (DIGEST_FACTOR * sum + signs[i] + 1) % DIGEST_MODULUS;
            }
            return (int) sum;
        }
    }

    /** The typed text and, after reading, where its fields and its body stand. */
    private static final class Message {
        static final int FIELDS_MOST = 12;

        final Text text;
        int fieldCount;
        int bodyStart;
        final int[] fieldStarts;
        final int[] fieldColons;
        final int[] fieldEnds;

        Message() {
            text = new Text(MESSAGE_MOST);
            fieldStarts = new int[FIELDS_MOST];
            fieldColons = new int[FIELDS_MOST];
            fieldEnds = new int[FIELDS_MOST];
        }

        /** Answers whether the message is well-formed; only then may the places be used. */
        boolean read() {
            fieldCount = 0;
            bodyStart = text.size;
            int start = 0;
            for (int i = 0; i < text.size; i++) {
                if (text.codeAt(i) == LINE_END) {
                    if (i == start) {
                        bodyStart = i + 1;
                        return true;
                    }
                    if (!readHeadLine(start, i)) {
                        return false;
                    }
                    start = i + 1;
                }
            }
            return start == text.size || readHeadLine(start, text.size);
        }

        private boolean readHeadLine(int start, int end) {
            if (text.codeAt(start) != SPACE) {
                return beginField(start, end);
            }
            if (fieldCount == 0) {
                return false;
            }
            fieldEnds[fieldCount - 1] = end;
            return true;
        }

        private boolean beginField(int start, int end) {
            int colon = start;
            while (colon < end && isNameSign(text.codeAt(colon))) {
                colon++;
            }
            boolean named = colon > start && colon < end && text.codeAt(colon) == COLON;
            if (!named || fieldCount == FIELDS_MOST) {
                return false;
            }
            fieldStarts[fieldCount] = start;
            fieldColons[fieldCount] = colon;
            fieldEnds[fieldCount] = end;
            fieldCount++;
            return true;
        }
    }

    /** The message and the list of names, and the canonical form that is written from them. */
    private static final class CanonicalForm {
        /** A last line may lack its 10, and a body without lines may get one. */
        static final int FORM_MOST = MESSAGE_MOST + 2;

        final Message message;
        final Text names;
        final Text text;
        final boolean[] taken;
        final int[] order;
        int takenCount;

        CanonicalForm() {
            message = new Message();
            names = new Text(LIST_MOST);
            text = new Text(FORM_MOST);
            taken = new boolean[Message.FIELDS_MOST];
            order = new int[Message.FIELDS_MOST];
        }

        /** Answers false, and leaves no form to be used, when the message is ill-formed. */
        boolean write(boolean relaxedFields, boolean relaxedBody) {
            text.cut(0);
            if (!message.read()) {
                return false;
            }
            takeFields();
            for (int i = 0; i < takenCount; i++) {
                if (relaxedFields) {
                    writeRelaxedField(order[i]);
                } else {
                    copy(message.fieldStarts[order[i]], message.fieldEnds[order[i]]);
                    text.append(LINE_END);
                }
            }
            if (relaxedBody) {
                writeRelaxedBody();
            } else {
                writePlainBody();
            }
            return true;
        }

        private void takeFields() {
            takenCount = 0;
            for (int f = 0; f < message.fieldCount; f++) {
                taken[f] = false;
            }
            int start = 0;
            for (int i = 0; i <= names.size; i++) {
                if (i == names.size || names.codeAt(i) == COLON) {
                    takeLast(start, i);
                    start = i + 1;
                }
            }
        }

        /** A name without characters takes nothing, for every field has a longer one. */
        private void takeLast(int start, int end) {
            for (int f = message.fieldCount - 1; f >= 0; f--) {
                if (!taken[f] && isNamed(f, start, end)) {
                    taken[f] = true;
                    order[takenCount] = f;
                    takenCount++;
                    return;
                }
            }
        }

        private boolean isNamed(int f, int start, int end) {
            int fieldStart = message.fieldStarts[f];
            if (message.fieldColons[f] - fieldStart != end - start) {
                return false;
            }
            for (int i = 0; i < end - start; i++) {
                int own = lowered(message.text.codeAt(fieldStart + i));
                if (own != lowered(names.codeAt(start + i))) {
                    return false;
                }
            }
            return true;
        }

        private void writeRelaxedField(int f) {
            int colon = message.fieldColons[f];
            for (int i = message.fieldStarts[f]; i < colon; i++) {
                text.append(lowered(message.text.codeAt(i)));
            }
            text.append(COLON);
            squeeze(colon + 1, message.fieldEnds[f], true);
            text.append(LINE_END);
        }

        private void writePlainBody() {
            int end = message.text.size;
            while (end > message.bodyStart && message.text.codeAt(end - 1) == LINE_END) {
                end--;
            }
            copy(message.bodyStart, end);
            text.append(LINE_END);
        }

        private void writeRelaxedBody() {
            int kept = text.size;
            int start = message.bodyStart;
            for (int i = start; i <= message.text.size; i++) {
                if (i == message.text.size || message.text.codeAt(i) == LINE_END) {
                    int before = text.size;
                    squeeze(start, i, false);
                    boolean empty = text.size == before;
                    text.append(LINE_END);
                    kept = empty ? kept : text.size;
                    start = i + 1;
                }
            }
            text.cut(kept);
        }

        private void copy(int start, int end) {
            for (int i = start; i < end; i++) {
                text.append(message.text.codeAt(i));
            }
        }

        /**
         * Makes every row of spaces one, without those at the end and perhaps at the beginning.
         * Ends of lines within are left out, which joins the lines of a field.
         */
        private void squeeze(int start, int end, boolean withoutFirst) {
            boolean atBeginning = withoutFirst;
            boolean gap = false;
            for (int i = start; i < end; i++) {
                int c = message.text.codeAt(i);
                if (c == SPACE) {
                    gap = true;
                } else if (c != LINE_END) {
                    if (gap && !atBeginning) {
                        text.append(SPACE);
                    }
                    text.append(c);
                    gap = false;
                    atBeginning = false;
                }
            }
        }
    }
}
