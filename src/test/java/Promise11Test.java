/** Promise 11: count. */
public final class Promise11Test {
    public static void main(String[] args) {
        Bench bench = Bench.sized(2, "class f p", "type a", "type b", "class g p");
        dueCounts(bench, "without a policy", 0, 0, 0, 0, 0, 4);
        bench.accept();
        dueCounts(bench, "after accept", 2, 2, 0, 0, 0, 4);
        bench.may(0, 0, 0);
        bench.may(0, 0, 0);
        bench.may(0, 0, 0);
        bench.may(0, 1, 0);
        dueCounts(bench, "after questions", 2, 2, 2, 2, 2, 4);
        bench.may(1, 1, 1);
        dueCounts(bench, "with a full memory", 2, 2, 2, 3, 2, 4);
        bench.addAll("type c", "class h p");
        dueCounts(bench, "before the next accept", 2, 2, 2, 3, 2, 6);
        bench.accept();
        dueCounts(bench, "after the next accept", 3, 3, 2, 3, 0, 6);
        bench.desk.cut(1);
        dueCounts(bench, "after a cut", 3, 3, 2, 3, 0, 1);
        bench.accept();
        dueCounts(bench, "after an accept that threw", 3, 3, 2, 3, 0, 1);
        bench.feed(1, 1, 1, 0, 1, 0, 0, 0, 0, 0, 0);
        bench.read();
        dueCounts(bench, "after read", 1, 1, 2, 3, 0, 1);
        int[] others = {-1, 6, 7, Integer.MAX_VALUE, Integer.MIN_VALUE};
        for (int what : others) {
            Bench.due("count(" + what + ")", bench.desk.count(what), 0);
        }
        Bench.finish();
    }

    private static void dueCounts(Bench bench, String when, int... want) {
        for (int what = 0; what < want.length; what++) {
            Bench.due("count(" + what + ") " + when, bench.desk.count(what), want[what]);
        }
    }
}
