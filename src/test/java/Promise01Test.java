/** Promise 1: a new object. */
public final class Promise01Test {
    public static void main(String[] args) {
        PolicyDesk desk = new PolicyDesk(3);
        for (int what = -1; what <= 6; what++) {
            Bench.due("count(" + what + ") of a new desk", desk.count(what), 0);
        }
        Bench.due("position of a new desk", desk.position(), PolicyDesk.NONE);
        Bench.due("fault of a new desk", desk.fault(), PolicyDesk.NONE);
        Bench.due("image of a new desk", desk.image(), 0);
        Bench.due("imageAt(0) of a new desk", desk.imageAt(0), PolicyDesk.NONE);
        Bench.due("may of a new desk", Bench.outcome(() -> desk.may(0, 0, 0)), Bench.NO_ELEMENT);
        Bench.due("made of a new desk", desk.made(0, 0, 0), PolicyDesk.NONE);
        Bench.due("flow of a new desk", desk.flow(0, 0), PolicyDesk.NONE);
        Bench.due("feed of a new desk", desk.feed(0, 1), 1);
        Bench.due("NONE", PolicyDesk.NONE, -1);
        nothingIsFed();
        textIsEmpty();

        dueSize(Integer.MIN_VALUE, 1);
        dueSize(-1, 1);
        dueSize(0, 1);
        for (int size = 1; size <= 8; size++) {
            dueSize(size, size);
        }
        dueSize(9, 8);
        dueSize(Integer.MAX_VALUE, 8);
        Bench.finish();
    }

    private static void nothingIsFed() {
        Bench.due("read of a new desk", new Bench(1).read(), Bench.BAD_ARGUMENT);
    }

    private static void textIsEmpty() {
        Bench bench = new Bench(1);
        Bench.due("add of a new desk", Bench.outcome(bench.desk::add), Bench.BAD_ARGUMENT);
        Bench.due("position of an empty text", bench.desk.position(), 0);
    }

    /** Asks nine questions, then the same ones from the latest on: as many are hits as the memory has room for. */
    private static void dueSize(int size, int room) {
        Bench bench = Bench.sized(size, "class f p", "type a", "type b", "type c");
        bench.accept();
        for (int k = 0; k < 9; k++) {
            bench.may(k / 3, k % 3, 0);
        }
        Bench.due("answers in a memory of " + size, bench.desk.count(4), room);
        Bench.due("misses in a memory of " + size, bench.desk.count(3), 9);
        for (int k = 8; k > 8 - room; k--) {
            bench.may(k / 3, k % 3, 0);
        }
        Bench.due("hits in a memory of " + size, bench.desk.count(2), room);
        bench.may(0, 0, 0);
        Bench.due("misses then in a memory of " + size, bench.desk.count(3), 10);
    }
}
