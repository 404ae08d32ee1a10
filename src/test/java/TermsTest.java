/** Edges that belong to several promises. */
public final class TermsTest {
    public static void main(String[] args) {
        selfAsName();
        numbersAsDeclared();
        twoDesks();
        theWholeLife();
        Bench.finish();
    }

    /** As t of allow and never self is the same type as s, even if a type or an attribute bears that name. */
    private static void selfAsName() {
        Bench type = Bench.with("class f p", "type self", "type b", "allow b self f p", "never b b f p");
        Bench.due("accept with a type self", type.accept(), Bench.BAD_STATE);
        type.desk.cut(4);
        type.accept();
        Bench.due("may of b to self", type.may(1, 0, 0), 0);
        Bench.due("may of b to b", type.may(1, 1, 0), 1);
        type.desk.cut(3);
        type.addAll("allow self b f p");
        type.accept();
        Bench.due("may of type self to b", type.may(0, 1, 0), 1);

        Bench attribute = Bench.with("class f p", "type a self", "type b self", "type c", "allow self self f p",
                "allow c self f p");
        attribute.accept();
        int[] masks = {1, 0, 0, 0, 1, 0, 0, 0, 1};
        for (int k = 0; k < 9; k++) {
            Bench.due("may with an attribute self, " + k, attribute.may(k / 3, k % 3, 0), masks[k]);
        }
    }

    private static void numbersAsDeclared() {
        Bench bench = Bench.with("allow b a g s", "type b", "class g r s", "type a", "class f s r", "allow a b f s");
        bench.accept();
        Bench.due("may(0, 1, 0)", bench.may(0, 1, 0), 2);
        Bench.due("may(1, 0, 1)", bench.may(1, 0, 1), 1);
        Bench.due("may(1, 0, 0)", bench.may(1, 0, 0), 0);
        Bench.due("may(0, 1, 1)", bench.may(0, 1, 1), 0);
    }

    private static void twoDesks() {
        Bench one = Bench.with("class f p", "type a", "allow a a f p");
        Bench other = Bench.with("class f p");
        one.accept();
        Bench.due("policy of the other desk", other.may(0, 0, 0), Bench.NO_ELEMENT);
        Bench.due("statements of the other desk", other.desk.count(5), 1);
        one.may(0, 0, 0);
        Bench.due("misses of the other desk", other.desk.count(3), 0);
    }

    /** All 512 calls of an object answer. */
    private static void theWholeLife() {
        Bench bench = new Bench(8);
        bench.feed(8, 1, 1, 0, 0, 0, 0, 0, 0, 0, 0);
        for (int k = 0; k < 2 * 64 + 5; k++) {
            bench.feed(k == 64 ? 3 : 0);
        }
        Bench.due("read at call 145", bench.read(), 8);
        for (int k = 145; k < 510; k++) {
            Bench.due("may at call " + k, bench.may(k % 8, k / 8 % 8, 0), 0);
        }
        Bench.due("misses", bench.desk.count(3), 365);
        Bench.due("made at the last call", bench.desk.made(0, 0, 0), 2);
    }
}
