/** Promise 12: image. */
public final class Promise12Test {
    public static void main(String[] args) {
        Bench none = new Bench(1);
        Bench.due("image without a policy", none.desk.image(), 0);
        Bench.due("its bytes", none.imageBytes(), "");

        Bench bench = Bench.with("class f p q", "class g p q r s t u", "type a x", "type b x", "rank a 7", "rank b 1",
                "allow a b f q", "allow x self g u", "allow b a g p r", "make a b f b", "make b a g a", "make b b g b",
                "need f > p", "need f = q", "need f < p q", "need f < p", "sees f p", "puts f q", "need g > t",
                "need g = s", "need g < r", "sees g q p", "puts g u", "never a a f p");
        Bench.due("accept", bench.accept(), 2);
        Bench.due("image", bench.desk.image(), 32);
        Bench.due("its bytes", bench.imageBytes(),
                "2 2 2 6 7 1 0 2 0 0 0 2 0 0 1 2 3 1 2 32 0 5 32 0 0 1 2 16 8 4 3 32");
        greatest();
        Bench.finish();
    }

    private static void greatest() {
        Bench bench = Bench.with("class f p q r s t u", "class g p", "class h p q r s t u", "type a x", "type b x", "type c x",
                "type d x", "type e x", "type f x", "type g x", "type h x", "allow x x h p q r s t u", "make h h h h");
        Bench.due("accept of the greatest", bench.accept(), 8);
        Bench.due("image of the greatest", bench.desk.image(), 412);
        Bench.due("how many permissions", bench.desk.imageAt(2) * 100 + bench.desk.imageAt(3) * 10 + bench.desk.imageAt(4), 616);
        Bench.due("the last class' first mask", bench.desk.imageAt(412 - 133), 63);
        Bench.due("the last class' last mask", bench.desk.imageAt(412 - 133 + 63), 63);
        Bench.due("the last class' last type that is made", bench.desk.imageAt(412 - 6), 8);
        Bench.due("the byte before", bench.desk.imageAt(412 - 7), 0);
        Bench.due("the last byte", bench.desk.imageAt(411), 0);
        Bench.due("behind the last byte", bench.desk.imageAt(412), PolicyDesk.NONE);
    }
}
