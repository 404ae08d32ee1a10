/** Promise 8: may, with needs and the memory. */
public final class Promise08Test {
    public static void main(String[] args) {
        allowed();
        namesOfOtherThings();
        declaredFirst();
        needs();
        bothNeeds();
        noSuch();
        latestStays();
        answersGoWithTheirQuestions();
        memoryIsEmptied();
        Bench.finish();
    }

    private static void allowed() {
        Bench bench = Bench.with("class f p q r s t u", "class g u t", "type a x", "type b x y", "type c y",
                "allow a b f u", "allow a b f p r", "allow x y g t", "allow c self f q", "allow y self g u",
                "never c a f p");
        bench.accept();
        int[] f = {0, 37, 0, 0, 0, 0, 0, 0, 2};
        int[] g = {0, 2, 2, 0, 3, 2, 0, 0, 1};
        dueMasks(bench, 0, f);
        dueMasks(bench, 1, g);
    }

    /** Classes, types and permissions may bear the same names. */
    private static void namesOfOtherThings() {
        Bench bench = Bench.with("class f p f a", "class a f p", "type f", "type a p", "allow f a f p", "allow a f f f",
                "allow p self a f", "allow f f f a");
        bench.accept();
        Bench.due("may(0, 1, 0)", bench.may(0, 1, 0), 1);
        Bench.due("may(1, 0, 0)", bench.may(1, 0, 0), 2);
        Bench.due("may(1, 1, 1)", bench.may(1, 1, 1), 1);
        Bench.due("may(0, 0, 0)", bench.may(0, 0, 0), 4);
        Bench.due("may(0, 0, 1)", bench.may(0, 0, 1), 0);
    }

    private static void declaredFirst() {
        Bench bench = Bench.with("type a x", "class f p q", "type b", "allow x b f p", "allow b a f q");
        bench.accept();
        Bench.due("may of the first", bench.may(0, 1, 0), 1);
        Bench.due("may to the first", bench.may(1, 0, 0), 2);
    }

    private static void dueMasks(Bench bench, int c, int[] masks) {
        for (int k = 0; k < masks.length; k++) {
            Bench.due("may(" + k / 3 + ", " + k % 3 + ", " + c + ")", bench.may(k / 3, k % 3, c), masks[k]);
        }
    }

    private static void needs() {
        // the rank of a is not told, and so 0
        Bench bench = Bench.with("class f over same low free", "type a x", "type b x", "type c x", "type d x", "type e x",
                "rank b 3", "rank c 7", "rank d 3", "rank e 0", "allow x x f over same low free",
                "need f > over", "need f = same", "need f < low");
        Bench.due("accept", bench.accept(), 5);
        int[] ranks = {0, 3, 7, 3, 0};
        for (int s = 0; s < 5; s++) {
            for (int t = 0; t < 5; t++) {
                int want = 8 + (ranks[s] >= ranks[t] ? 1 : 0) + (ranks[s] == ranks[t] ? 2 : 0)
                        + (ranks[s] <= ranks[t] ? 4 : 0);
                Bench.due("may(" + s + ", " + t + ", 0) with needs", bench.may(s, t, 0), want);
            }
        }
    }

    private static void bothNeeds() {
        Bench bench = Bench.with("class f p q", "class g p q", "type a x", "type b x", "rank a 2", "rank b 1",
                "allow x x f p q", "allow x x g p q", "need f > p", "need f < q p", "need f > p", "need g = q");
        bench.accept();
        Bench.due("may(0, 1, 0)", bench.may(0, 1, 0), 0);
        Bench.due("may(1, 0, 0)", bench.may(1, 0, 0), 2);
        Bench.due("may(0, 0, 0)", bench.may(0, 0, 0), 3);
        Bench.due("may(0, 1, 1)", bench.may(0, 1, 1), 1);
        Bench.due("may(1, 1, 1)", bench.may(1, 1, 1), 3);
    }

    private static void noSuch() {
        Bench bench = Bench.with("class f p", "class g p", "type a", "type b", "type c", "allow a a f p");
        Bench.due("may without a policy", bench.may(0, 0, 0), Bench.NO_ELEMENT);
        bench.accept();
        int[][] outside = {
            {3, 0, 0}, {0, 3, 0}, {0, 0, 2}, {-1, 0, 0}, {0, -1, 0}, {0, 0, -1}, {Integer.MAX_VALUE, 0, 0},
            {0, Integer.MIN_VALUE, 0}, {0, 0, Integer.MAX_VALUE}, {0, 0, Integer.MIN_VALUE}, {1 << 26, 0, 0}, {0, 8, 0},
            {8, 0, 0}, {0, 0, 1 << 26}, {-8, 0, 1}, {0, 64, 0}, {0, 0, 3}
        };
        for (int[] at : outside) {
            Bench.due("may(" + at[0] + ", " + at[1] + ", " + at[2] + ")", bench.may(at[0], at[1], at[2]), Bench.NO_ELEMENT);
        }
        Bench.due("misses after questions for nothing", bench.desk.count(3), 0);
        Bench.due("answers after questions for nothing", bench.desk.count(4), 0);
        Bench.due("may(2, 2, 1)", bench.may(2, 2, 1), 0);
    }

    private static void latestStays() {
        Bench bench = Bench.sized(3, "class f p", "class g p", "type a", "type b");
        bench.accept();
        dueAsked(bench, 0, 0, 0, 0, 1);
        dueAsked(bench, 0, 1, 0, 0, 2);
        dueAsked(bench, 1, 0, 0, 0, 3);
        dueAsked(bench, 0, 0, 0, 1, 3);
        dueAsked(bench, 0, 0, 1, 1, 4);
        dueAsked(bench, 0, 0, 0, 2, 4);
        dueAsked(bench, 1, 0, 0, 3, 4);
        dueAsked(bench, 0, 1, 0, 3, 5);
        dueAsked(bench, 0, 0, 1, 3, 6);
        dueAsked(bench, 0, 0, 1, 4, 6);
        dueAsked(bench, 0, 1, 0, 5, 6);
        dueAsked(bench, 1, 0, 0, 6, 6);
        dueAsked(bench, 0, 0, 0, 6, 7);
        dueAsked(bench, 0, 0, 1, 6, 8);
        Bench.due("answers", bench.desk.count(4), 3);
    }

    private static void answersGoWithTheirQuestions() {
        Bench bench = Bench.sized(3, "class f p q r", "type a", "type b", "allow a a f p", "allow a b f q",
                "allow b a f r", "allow b b f p q r");
        bench.accept();
        int[] masks = {1, 2, 4, 7};
        int[] asked = {0, 1, 2, 0, 2, 1, 3, 2, 1, 0, 0, 3, 1, 0, 2, 1, 2, 0, 3, 2, 3, 0};
        for (int k = 0; k < asked.length; k++) {
            Bench.due("question " + k, bench.may(asked[k] / 2, asked[k] % 2, 0), masks[asked[k]]);
        }
        Bench.due("hits", bench.desk.count(2), 14);
        Bench.due("misses", bench.desk.count(3), 8);
    }

    private static void dueAsked(Bench bench, int s, int t, int c, int hits, int misses) {
        String call = "may(" + s + ", " + t + ", " + c + ")";
        bench.may(s, t, c);
        Bench.due("hits after " + call, bench.desk.count(2), hits);
        Bench.due("misses after " + call, bench.desk.count(3), misses);
    }

    private static void memoryIsEmptied() {
        Bench bench = Bench.sized(4, "class f p q", "type a", "allow a a f p");
        bench.accept();
        dueAsked(bench, 0, 0, 0, 0, 1);
        dueAsked(bench, 0, 0, 0, 1, 1);
        bench.addAll("allow a a f q");
        Bench.due("may before accept", bench.may(0, 0, 0), 1);
        bench.accept();
        Bench.due("answers after accept", bench.desk.count(4), 0);
        Bench.due("may after accept", bench.may(0, 0, 0), 3);
        Bench.due("misses after accept", bench.desk.count(3), 2);
        Bench.due("hits after accept", bench.desk.count(2), 2);
        bench.feed(1, 1, 2, 0, 2, 0, 0, 0, 0, 0, 0);
        Bench.due("may before read", bench.may(0, 0, 0), 3);
        bench.read();
        Bench.due("answers after read", bench.desk.count(4), 0);
        Bench.due("may after read", bench.may(0, 0, 0), 2);
        Bench.due("misses after read", bench.desk.count(3), 3);
        Bench.due("read of nothing", bench.read(), Bench.BAD_ARGUMENT);
        Bench.due("answers after a read that threw", bench.desk.count(4), 1);
        Bench.due("may after a read that threw", bench.may(0, 0, 0), 2);
        Bench.due("hits after a read that threw", bench.desk.count(2), 4);
    }
}
