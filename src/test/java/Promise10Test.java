/** Promise 10: flow. */
public final class Promise10Test {
    public static void main(String[] args) {
        directions();
        longWay();
        shortestWay();
        needsForbid();
        laterClasses();
        noSuch();
        Bench.finish();
    }

    private static void directions() {
        Bench bench = Bench.with("class f see put", "type a", "type b", "type c", "type d", "sees f see", "puts f put",
                "allow a b f see", "allow c d f put", "allow d d f see put");
        bench.accept();
        int none = PolicyDesk.NONE;
        int[] want = {0, none, none, none, 1, 0, none, none, none, none, 0, 1, none, none, none, 0};
        for (int k = 0; k < 16; k++) {
            Bench.due("flow(" + k / 4 + ", " + k % 4 + ")", bench.desk.flow(k / 4, k % 4), want[k]);
        }
        Bench.due("hits after flows", bench.desk.count(2), 0);
        Bench.due("misses after flows", bench.desk.count(3), 0);
        Bench.due("answers after flows", bench.desk.count(4), 0);
    }

    private static void longWay() {
        Bench bench = Bench.with("class f p", "type a", "type b", "type c", "type d", "type e", "type f", "type g", "type h",
                "puts f p", "allow h g f p", "allow g f f p", "allow f e f p", "allow e d f p", "allow d c f p",
                "allow c b f p", "allow b a f p");
        bench.accept();
        for (int from = 0; from < 8; from++) {
            for (int to = 0; to < 8; to++) {
                int want = from >= to ? from - to : PolicyDesk.NONE;
                Bench.due("flow(" + from + ", " + to + ") on a long way", bench.desk.flow(from, to), want);
            }
        }
    }

    private static void shortestWay() {
        Bench bench = Bench.with("class f p q", "type a", "type b", "type c", "type d", "type e", "puts f p", "sees f q",
                "allow a b f p", "allow c b f q", "allow c d f p", "allow d e f p", "allow e b f q", "allow e a f p");
        bench.accept();
        Bench.due("flow(0, 4)", bench.desk.flow(0, 4), 2);
        Bench.due("flow(0, 3)", bench.desk.flow(0, 3), 3);
        Bench.due("flow(3, 2)", bench.desk.flow(3, 2), 4);
        Bench.due("flow(2, 1)", bench.desk.flow(2, 1), 4);
        Bench.due("flow(4, 4)", bench.desk.flow(4, 4), 0);
    }

    private static void needsForbid() {
        Bench bench = Bench.with("class f p q", "type a", "type b", "rank a 1", "puts f p", "sees f q", "need f < p",
                "need f = q", "allow a b f p q", "allow b a f p q");
        bench.accept();
        Bench.due("flow(0, 1)", bench.desk.flow(0, 1), PolicyDesk.NONE);
        Bench.due("flow(1, 0)", bench.desk.flow(1, 0), 1);
        bench.desk.cut(6);
        bench.addAll("allow a b f p q");
        bench.accept();
        Bench.due("flow(0, 1) without needs", bench.desk.flow(0, 1), 1);
        Bench.due("flow(1, 0) without needs", bench.desk.flow(1, 0), 1);
        bench.addAll("need f < q");
        bench.accept();
        Bench.due("flow(0, 1) without a need for it", bench.desk.flow(0, 1), 1);
        Bench.due("flow(1, 0) with a need for it", bench.desk.flow(1, 0), PolicyDesk.NONE);
    }

    private static void laterClasses() {
        // each class has its own masks: permission 0 puts in g alone, and sees in h alone
        Bench bench = Bench.with("class f p", "class g p", "class h p", "type a", "type b", "type c", "puts g p", "sees h p",
                "allow a b g p", "allow a c f p", "allow c b h p", "allow b c f p");
        bench.accept();
        Bench.due("flow(0, 1)", bench.desk.flow(0, 1), 1);
        Bench.due("flow(0, 2)", bench.desk.flow(0, 2), 2);
        Bench.due("flow(1, 2)", bench.desk.flow(1, 2), 1);
        Bench.due("flow(2, 1)", bench.desk.flow(2, 1), PolicyDesk.NONE);
        Bench.due("flow(1, 0)", bench.desk.flow(1, 0), PolicyDesk.NONE);
    }

    private static void noSuch() {
        Bench bench = Bench.with("class f p", "type a x", "type b x", "puts f p", "allow x x f p");
        Bench.due("flow without a policy", bench.desk.flow(0, 0), PolicyDesk.NONE);
        bench.accept();
        int[] outside = {2, 3, 8, 31, 32, 33, -1, -2, -31, -32, Integer.MAX_VALUE, Integer.MIN_VALUE};
        for (int type : outside) {
            Bench.due("flow(" + type + ", 0)", bench.desk.flow(type, 0), PolicyDesk.NONE);
            Bench.due("flow(1, " + type + ")", bench.desk.flow(1, type), PolicyDesk.NONE);
            Bench.due("flow(" + type + ", " + type + ")", bench.desk.flow(type, type), PolicyDesk.NONE);
        }
        Bench.due("flow(1, 1)", bench.desk.flow(1, 1), 0);
        Bench.due("flow(1, 0)", bench.desk.flow(1, 0), 1);
    }
}
