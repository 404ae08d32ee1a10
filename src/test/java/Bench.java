import java.util.Arrays;
import java.util.function.IntSupplier;

/** What the tests share: a desk that texts can be told to, and the count of answers that are not as due. */
final class Bench {
    static final String BAD_ARGUMENT = "IllegalArgumentException";
    static final String BAD_STATE = "IllegalStateException";
    static final String NO_ELEMENT = "NoSuchElementException";

    private static int wrong = 0;
    private static String sentence = "";

    final PolicyDesk desk;

    Bench(int size) {
        desk = new PolicyDesk(size);
    }

    /** A desk to which the statements were added, each of which must be one. */
    static Bench with(String... statements) {
        return sized(8, statements);
    }

    static Bench sized(int size, String... statements) {
        Bench bench = new Bench(size);
        bench.addAll(statements);
        return bench;
    }

    /** The words of the document that the answers from here on are about. */
    static void sentence(String words) {
        sentence = "[" + words + "] ";
    }

    static void due(String what, Object got, Object want) {
        if (!String.valueOf(got).equals(String.valueOf(want))) {
            wrong++;
            System.out.println(sentence + what + " answered " + got + ", due is " + want);
        }
    }

    static void finish() {
        System.out.println(wrong == 0 ? "all answers are as due" : wrong + " answers are not as due");
        System.exit(wrong == 0 ? 0 : 1);
    }

    /** The answer, or the simple name of what was thrown. */
    static String outcome(IntSupplier call) {
        try {
            return String.valueOf(call.getAsInt());
        } catch (RuntimeException thrown) {
            return thrown.getClass().getSimpleName();
        }
    }

    /** Up to eight characters as the bytes of a long, zeros before them. */
    static long packed(String chunk) {
        long w = 0;
        for (int k = 0; k < chunk.length(); k++) {
            w = w << 8 | chunk.charAt(k);
        }
        return w;
    }

    boolean write(String text) {
        boolean all = true;
        for (int k = 0; k < text.length(); k += 8) {
            all &= desk.write(packed(text.substring(k, Math.min(text.length(), k + 8))));
        }
        return all;
    }

    String add(String text) {
        due("write of '" + text + "'", write(text), true);
        return outcome(desk::add);
    }

    void addAll(String... statements) {
        for (String statement : statements) {
            due("add of '" + statement + "'", add(statement), desk.count(5) - 1);
        }
    }

    String accept() {
        return outcome(desk::accept);
    }

    String may(int s, int t, int c) {
        return outcome(() -> desk.may(s, t, c));
    }

    String read() {
        return outcome(desk::read);
    }

    /** Feeds the bytes one by one: how many are fed then. */
    int feed(int... bytes) {
        int fed = 0;
        for (int value : bytes) {
            fed = desk.feed((long) value << 56, 1);
        }
        return fed;
    }

    String imageBytes() {
        StringBuilder row = new StringBuilder();
        int value = desk.imageAt(0);
        for (int k = 1; value != PolicyDesk.NONE && k < 500; k++) {
            row.append(k == 1 ? "" : " ").append(value);
            value = desk.imageAt(k);
        }
        return row.toString();
    }

    /** What accept throws for a draft and where, as "IllegalArgumentException at 3"; the answer if it throws not. */
    static void dueOfDraft(String want, String... statements) {
        Bench bench = with(statements);
        String got = bench.accept();
        String where = bench.desk.fault() == PolicyDesk.NONE ? "" : " at " + bench.desk.fault();
        due("accept of " + String.join("; ", statements), got + where, want);
    }

    /** The same, for a draft of the base with more statements behind. */
    static void dueBehind(String[] base, String want, String... more) {
        String[] all = Arrays.copyOf(base, base.length + more.length);
        System.arraycopy(more, 0, all, base.length, more.length);
        dueOfDraft(want, all);
    }

    static void dueOfText(String text, int position) {
        Bench bench = new Bench(1);
        due("add of '" + text + "'", bench.add(text), BAD_ARGUMENT);
        due("position for '" + text + "'", bench.desk.position(), position);
        due("statements after '" + text + "'", bench.desk.count(5), 0);
    }

    static void dueStatement(String text) {
        Bench bench = new Bench(1);
        due("add of '" + text + "'", bench.add(text), 0);
        due("position for '" + text + "'", bench.desk.position(), PolicyDesk.NONE);
        due("statements after '" + text + "'", bench.desk.count(5), 1);
    }
}
