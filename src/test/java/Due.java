/** Counts the answers of one test that are not the ones that are due. */
final class Due {
    private static int wrong = 0;
    private static String sentence = "";

    private Due() {
    }

    /** Names the sentence of the document that the answers to come belong to. */
    static void about(String told) {
        sentence = "[" + told + "] ";
    }

    static void same(String call, long got, long want) {
        if (got != want) {
            wrong++;
            System.out.println(sentence + call + " answered " + got + ", due is " + want);
        }
    }

    static void yes(String call, boolean got) {
        same(call, got ? 1 : 0, 1);
    }

    static void no(String call, boolean got) {
        same(call, got ? 1 : 0, 0);
    }

    static void text(String call, String got, String want) {
        if (!got.equals(want)) {
            wrong++;
            System.out.println(
                    sentence + call + " answered <" + shown(got) + ">, due is <" + shown(want) + ">");
        }
    }

    private static String shown(String text) {
        return text.replace("\n", "\\n");
    }

    /** Types a text that must be taken whole. */
    static void typed(MailVerdicts x, String text) {
        for (char c : text.toCharArray()) {
            yes("type(" + (int) c + ")", x.type(c));
        }
    }

    /** Lists a text that must be taken whole. */
    static void listed(MailVerdicts x, String text) {
        for (char c : text.toCharArray()) {
            yes("list(" + (int) c + ")", x.list(c));
        }
    }

    /** An object with so many domains that have no parent and are no suffix. */
    static MailVerdicts domains(int count) {
        MailVerdicts x = new MailVerdicts();
        for (int d = 0; d < count; d++) {
            same("domain " + d, x.domain(-1, false), d);
        }
        return x;
    }

    static MailVerdicts message(String text, String list) {
        MailVerdicts x = new MailVerdicts();
        typed(x, text);
        listed(x, list);
        return x;
    }

    static String form(MailVerdicts x, boolean fields, boolean body) {
        StringBuilder form = new StringBuilder();
        int length = x.length(fields, body);
        for (int i = 0; i < length; i++) {
            form.append((char) x.at(fields, body, i));
        }
        same("at(" + fields + ", " + body + ", " + length + ")", x.at(fields, body, Math.max(length, 0)), -1);
        return form.toString();
    }

    static void end() {
        System.out.println(wrong == 0 ? "all answers are as due" : wrong + " answers are not as due");
        if (wrong != 0) {
            System.exit(1);
        }
    }
}
