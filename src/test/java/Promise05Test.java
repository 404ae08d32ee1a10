/** Promise 5: cut. */
public final class Promise05Test {
    public static void main(String[] args) {
        Bench empty = new Bench(1);
        Bench.due("cut(0) of nothing", empty.desk.cut(0), true);
        Bench.due("cut(1) of nothing", empty.desk.cut(1), false);
        Bench.due("cut(-1) of nothing", empty.desk.cut(-1), false);

        Bench bench = Bench.with("class f p", "type a", "type b", "rank b 2", "rank b 3");
        Bench.due("cut(6)", bench.desk.cut(6), false);
        Bench.due("cut(-1)", bench.desk.cut(-1), false);
        Bench.due("cut of the most", bench.desk.cut(Integer.MAX_VALUE), false);
        Bench.due("cut of the least", bench.desk.cut(Integer.MIN_VALUE), false);
        Bench.due("statements after cuts that are false", bench.desk.count(5), 5);
        Bench.due("accept after cuts that are false", bench.accept(), Bench.BAD_ARGUMENT);
        Bench.due("cut(5)", bench.desk.cut(5), true);
        Bench.due("statements after cut(5)", bench.desk.count(5), 5);
        Bench.due("fault after cut(5)", bench.desk.fault(), 4);
        Bench.due("cut(4)", bench.desk.cut(4), true);
        Bench.due("accept after cut(4)", bench.accept(), 2);
        bench.desk.image();
        Bench.due("rank after cut(4)", bench.desk.imageAt(4), 2);
        Bench.due("cut(2)", bench.desk.cut(2), true);
        Bench.due("statements after cut(2)", bench.desk.count(5), 2);
        Bench.due("cut(3) then", bench.desk.cut(3), false);
        Bench.due("types of the policy before accept", bench.desk.count(0), 2);
        Bench.due("accept after cut(2)", bench.accept(), 1);
        Bench.due("cut(0)", bench.desk.cut(0), true);
        Bench.due("accept after cut(0)", bench.accept(), Bench.BAD_ARGUMENT);
        Bench.due("fault after cut(0)", bench.desk.fault(), 0);
        Bench.due("types after it", bench.desk.count(0), 1);
        textStays();
        whatIsCutCountsNoMore();
        Bench.finish();
    }

    /** What was declared behind the end is declared no more. */
    private static void whatIsCutCountsNoMore() {
        Bench attribute = Bench.with("class f p", "type a", "type b a");
        Bench.due("accept with the attribute", attribute.accept(), Bench.BAD_ARGUMENT);
        attribute.desk.cut(2);
        Bench.due("accept without the attribute", attribute.accept(), 1);

        Bench type = Bench.with("class f p", "type a", "rank b 1", "type b");
        Bench.due("accept with the type", type.accept(), 2);
        type.desk.cut(3);
        Bench.due("accept without the type", type.accept(), Bench.BAD_ARGUMENT);
        Bench.due("fault without the type", type.desk.fault(), 2);

        Bench permission = Bench.with("class f p", "type a", "sees f q", "class f q");
        permission.accept();
        Bench.due("fault with the permission", permission.desk.fault(), 3);
        permission.desk.cut(3);
        permission.accept();
        Bench.due("fault without the permission", permission.desk.fault(), 2);

        Bench same = Bench.with("class f p q", "type a", "allow a a f q", "class f q");
        same.desk.cut(3);
        Bench.due("accept without the class of the same name", same.accept(), 1);
        Bench.due("may without the class of the same name", same.may(0, 0, 0), 2);

        Bench half = Bench.with("class f p", "type a");
        half.add("type b a!");
        Bench.due("accept behind a text that is no statement", half.accept(), 1);
    }

    private static void textStays() {
        Bench bench = Bench.with("class f p");
        bench.write("type ");
        bench.desk.cut(0);
        Bench.due("add of a text written round a cut", bench.add("a"), 0);
    }
}
