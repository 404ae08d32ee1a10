/** Promise 13: imageAt. */
public final class Promise13Test {
    private static final String FIRST = "1 1 2 5 3 1 0 1 0 0 2";

    public static void main(String[] args) {
        Bench bench = Bench.with("class f p q", "type a", "rank a 5", "allow a self f p q", "make a a f a", "need f = p",
                "puts f q");
        bench.accept();
        Bench.due("imageAt(0) before an image", bench.desk.imageAt(0), PolicyDesk.NONE);
        bench.desk.image();
        Bench.due("bytes", bench.imageBytes(), FIRST);
        int[] outside = {11, 12, 419, 420, 421, -1, Integer.MAX_VALUE, Integer.MIN_VALUE};
        for (int k : outside) {
            Bench.due("imageAt(" + k + ")", bench.desk.imageAt(k), PolicyDesk.NONE);
        }
        bench.desk.cut(2);
        bench.addAll("type b");
        bench.accept();
        bench.feed(9, 9, 9);
        Bench.due("bytes of the image before, with a new policy", bench.imageBytes(), FIRST);
        Bench.due("the next image", bench.desk.image(), 18);
        Bench.due("its bytes", bench.imageBytes(), "2 1 2 0 0 0 0 0 0 0 0 0 0 0 0 0 0 0");
        bench.desk.cut(2);
        bench.accept();
        Bench.due("a shorter image", bench.desk.image(), 11);
        Bench.due("its bytes alone", bench.imageBytes(), "1 1 2 0 0 0 0 0 0 0 0");
        Bench.finish();
    }
}
