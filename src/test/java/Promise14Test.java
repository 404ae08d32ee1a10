/** Promise 14: feed. */
public final class Promise14Test {
    public static void main(String[] args) {
        wrongLengths();
        bytesFromTheHighest();
        mostBytes();
        bytesAreNotSigned();
        Bench.finish();
    }

    private static void wrongLengths() {
        Bench bench = new Bench(1);
        int[] wrong = {0, -1, 9, 10, Integer.MAX_VALUE, Integer.MIN_VALUE};
        for (int n : wrong) {
            Bench.due("feed(1, " + n + ")", bench.desk.feed(1, n), PolicyDesk.NONE);
        }
        int fed = 0;
        for (int n = 1; n <= 8; n++) {
            fed += n;
            Bench.due("feed of " + n, bench.desk.feed(-1, n), fed);
        }
        Bench.due("feed(1, 0) later", bench.desk.feed(1, 0), PolicyDesk.NONE);
        Bench.due("feed of 1", bench.desk.feed(0, 1), fed + 1);
    }

    private static void bytesFromTheHighest() {
        // the bytes behind the first n are none of it
        Bench bench = new Bench(1);
        Bench.due("feed of 3", bench.desk.feed(0x0101020909090909L, 3), 3);
        Bench.due("feed of 8", bench.desk.feed(0x0703010203000102L, 8), 11);
        Bench.due("read", bench.read(), 1);
        bench.desk.image();
        Bench.due("bytes", bench.imageBytes(), "1 1 2 7 3 1 2 3 0 1 2");
    }

    private static void mostBytes() {
        Bench bench = new Bench(1);
        for (int k = 1; k <= 52; k++) {
            Bench.due("feed of 8, time " + k, bench.desk.feed(0, 8), 8 * k);
        }
        Bench.due("feed of 8 behind 416", bench.desk.feed(0, 8), PolicyDesk.NONE);
        Bench.due("feed of 5 behind 416", bench.desk.feed(0, 5), PolicyDesk.NONE);
        Bench.due("feed of 3 behind 416", bench.desk.feed(0, 3), 419);
        Bench.due("feed of 2 behind 419", bench.desk.feed(0, 2), PolicyDesk.NONE);
        Bench.due("feed of 1 behind 419", bench.desk.feed(0, 1), 420);
        Bench.due("feed of 1 behind 420", bench.desk.feed(0, 1), PolicyDesk.NONE);
        Bench.due("read of 420", bench.read(), Bench.BAD_ARGUMENT);
        Bench.due("feed after read", bench.desk.feed(0, 8), 8);

        Bench changed = new Bench(1);
        Bench.due("feed of an image", changed.feed(1, 1, 1, 0, 1, 0, 0, 0, 0, 0, 0), 11);
        Bench.due("feed(-1, 9)", changed.desk.feed(-1, 9), PolicyDesk.NONE);
        Bench.due("read after a feed of nothing", changed.read(), 1);
    }

    private static void bytesAreNotSigned() {
        Bench bench = new Bench(1);
        bench.feed(1, 1, 6, 0, 191, 0, 0, 0, 0, 0, 0);
        Bench.due("read of a mask of 191", bench.read(), Bench.BAD_ARGUMENT);
        bench.feed(1, 1, 6, 0, 63, 255, 0, 0, 0, 0, 0);
        Bench.due("read of a type 255", bench.read(), Bench.BAD_ARGUMENT);
        bench.feed(1, 1, 6, 255, 63, 0, 0, 0, 0, 0, 0);
        Bench.due("read of a rank 255", bench.read(), Bench.BAD_ARGUMENT);
    }
}
