/** Promise 9: made. */
public final class Promise09Test {
    public static void main(String[] args) {
        Bench bench = Bench.with("class f p", "class g p", "class h p", "type a", "type b", "type c",
                "make a b f c", "make b a f a", "make c c h b", "make a b g a");
        Bench.due("made without a policy", bench.desk.made(0, 0, 0), PolicyDesk.NONE);
        bench.accept();
        for (int c = 0; c < 3; c++) {
            for (int s = 0; s < 3; s++) {
                for (int t = 0; t < 3; t++) {
                    Bench.due("made(" + s + ", " + t + ", " + c + ")", bench.desk.made(s, t, c), want(s, t, c));
                }
            }
        }
        Bench.due("made has nothing to do with the memory", bench.desk.count(3), 0);
        int[][] outside = {
            {3, 0, 0}, {0, 3, 0}, {0, 1, 3}, {-1, 0, 0}, {0, -1, 0}, {0, 1, -1}, {Integer.MAX_VALUE, 0, 0},
            {0, Integer.MIN_VALUE, 0}, {0, 1, Integer.MAX_VALUE}, {1 << 26, 1, 0}, {0, 9, 0}, {8, 1, 0}, {-8, 1, 1}
        };
        for (int[] at : outside) {
            Bench.due("made(" + at[0] + ", " + at[1] + ", " + at[2] + ")", bench.desk.made(at[0], at[1], at[2]), PolicyDesk.NONE);
        }
        bench.desk.cut(6);
        bench.accept();
        Bench.due("made by a policy without makes", bench.desk.made(0, 1, 0), PolicyDesk.NONE);
        eighthType();
        Bench.finish();
    }

    private static int want(int s, int t, int c) {
        switch (c * 9 + s * 3 + t) {
            case 1:
                return 2;
            case 3:
                return 0;
            case 9 + 1:
                return 0;
            case 18 + 8:
                return 1;
            default:
                return PolicyDesk.NONE;
        }
    }

    private static void eighthType() {
        Bench bench = Bench.with("class f p", "class g p", "class i p", "type a", "type b", "type c", "type d", "type e",
                "type f", "type g", "type h", "make h h i h", "make h a i g");
        bench.accept();
        Bench.due("made(7, 7, 2)", bench.desk.made(7, 7, 2), 7);
        Bench.due("made(7, 0, 2)", bench.desk.made(7, 0, 2), 6);
        Bench.due("made(0, 7, 2)", bench.desk.made(0, 7, 2), PolicyDesk.NONE);
        Bench.due("made(8, 0, 2)", bench.desk.made(8, 0, 2), PolicyDesk.NONE);
    }
}
