import java.util.Arrays;

/** Terms: an image and when it is well formed; a method for each sentence that names a boundary. */
public final class EdgesOfImageTest {
    public static void main(String[] args) {
        order();
        rowsOfMasks();
        oneMore();
        types();
        classes();
        permissions();
        ranks();
        bitsOfPermissions();
        typesThatAreMade();
        noByteLess();
        noByteMore();
        Bench.finish();
    }

    /** An image of zeros but for its first bytes. */
    private static int[] blankImage(int types, int classes, int permissions) {
        int[] image = new int[2 + classes + types + classes * (2 * types * types + 5)];
        image[0] = types;
        image[1] = classes;
        Arrays.fill(image, 2, 2 + classes, permissions);
        return image;
    }

    private static void dueOfRead(String what, int[] image, boolean wellFormed) {
        Bench bench = new Bench(1);
        feed(bench, image);
        Bench.due("read of " + what, bench.read(), wellFormed ? String.valueOf(image[0]) : Bench.BAD_ARGUMENT);
        Bench.due("types after " + what, bench.desk.count(0), wellFormed ? image[0] : 0);
        Bench.due("classes after " + what, bench.desk.count(1), wellFormed ? image[1] : 0);
        Bench.due("image after " + what, bench.desk.image(), wellFormed ? image.length : 0);
        for (int k = 0; wellFormed && k < image.length; k++) {
            Bench.due("byte " + k + " after " + what, bench.desk.imageAt(k), image[k]);
        }
    }

    private static void feed(Bench bench, int[] image) {
        for (int from = 0; from < image.length; from += 8) {
            int n = Math.min(8, image.length - from);
            long w = 0;
            for (int k = 0; k < n; k++) {
                w |= (long) image[from + k] << 56 - 8 * k;
            }
            Bench.due("feed", bench.desk.feed(w, n), from + n);
        }
    }

    private static void dueOfByte(int[] image, int k, int value, boolean wellFormed) {
        int[] changed = image.clone();
        changed[k] = value;
        dueOfRead(image.length + " bytes with byte " + k + " being " + value, changed, wellFormed);
    }

    private static void order() {
        Bench.sentence("how many types T, how many classes C, for each class how many permissions; for each type its rank");
        Bench bench = Bench.with("type a", "type b", "type c", "class f p q", "class g p q r s t u", "rank c 7", "rank a 1");
        bench.accept();
        Bench.due("image", bench.desk.image(), 2 + 2 + 3 + 2 * 23);
        int[] head = {3, 2, 2, 6, 1, 0, 7, 0};
        for (int k = 0; k < head.length; k++) {
            Bench.due("byte " + k, bench.desk.imageAt(k), head[k]);
        }
        Bench least = Bench.with("class f p", "type a");
        least.accept();
        Bench.due("the least image", least.desk.image(), 11);
        Bench.due("its bytes", least.imageBytes(), "1 1 1 0 0 0 0 0 0 0 0");
    }

    private static void rowsOfMasks() {
        Bench.sentence("then for each class: T * T masks (s by s, in each t by t), types that are made, masks of > , = , < , sees, puts");
        String[] told = {
            "allow a a g p", "allow a b g p", "allow b a g p", "allow b b g p", "make a a g a", "make a b g a", "make b a g a",
            "make b b g a", "need g > p", "need g = p", "need g < p", "sees g p", "puts g p"
        };
        for (int k = 0; k < told.length; k++) {
            for (int c = 0; c < 2; c++) {
                Bench bench = Bench.with("type a", "type b", c == 0 ? "class g p" : "class f p", c == 0 ? "class f p" : "class g p",
                        told[k]);
                bench.accept();
                Bench.due("image with " + told[k], bench.desk.image(), 32);
                for (int at = 6; at < 32; at++) {
                    Bench.due("byte " + at + " with " + told[k], bench.desk.imageAt(at), at == 6 + 13 * c + k ? 1 : 0);
                }
            }
        }
    }

    private static void oneMore() {
        Bench.sentence("T * T types that are made, each 1 more, 0 for none");
        Bench bench = Bench.with("class f p", "type a", "type b", "type c", "make a a f a", "make b b f b", "make c c f c");
        bench.accept();
        bench.desk.image();
        int[] want = {1, 0, 0, 0, 2, 0, 0, 0, 3};
        for (int k = 0; k < 9; k++) {
            Bench.due("type that is made, " + k, bench.desk.imageAt(3 + 3 + 9 + k), want[k]);
        }
        Bench back = new Bench(1);
        feed(back, new int[] {2, 1, 1, 0, 0, 0, 0, 0, 0, 0, 1, 2, 0, 0, 0, 0, 0, 0});
        back.read();
        Bench.due("made by 0", back.desk.made(0, 0, 0), PolicyDesk.NONE);
        Bench.due("made by 1", back.desk.made(0, 1, 0), 0);
        Bench.due("made by 2", back.desk.made(1, 0, 0), 1);
    }

    private static void types() {
        Bench.sentence("It is WELL FORMED if T is 1 .. 8");
        for (int types = 0; types <= 9; types++) {
            dueOfRead(types + " types", blankImage(types, 1, 1), types >= 1 && types <= 8);
        }
        for (int types : new int[] {0, 2, 9, 127, 128, 129, 255}) {
            dueOfByte(blankImage(1, 1, 1), 0, types, false);
            dueOfByte(blankImage(8, 1, 1), 0, types, false);
        }
    }

    private static void classes() {
        Bench.sentence("C 1 .. 3");
        for (int classes = 0; classes <= 4; classes++) {
            dueOfRead(classes + " classes", blankImage(2, classes, 1), classes >= 1 && classes <= 3);
        }
        for (int classes : new int[] {0, 2, 4, 127, 128, 129, 255}) {
            dueOfByte(blankImage(1, 1, 1), 1, classes, false);
            dueOfByte(blankImage(1, 3, 1), 1, classes, false);
        }
        dueOfRead("8 types and 3 classes", blankImage(8, 3, 6), true);
    }

    private static void permissions() {
        Bench.sentence("permissions 1 .. 6");
        for (int k = 2; k < 5; k++) {
            for (int permissions = 0; permissions <= 8; permissions++) {
                dueOfByte(blankImage(2, 3, 1), k, permissions, permissions >= 1 && permissions <= 6);
            }
            for (int permissions : new int[] {32, 33, 64, 127, 128, 129, 255}) {
                dueOfByte(blankImage(2, 3, 1), k, permissions, false);
            }
        }
    }

    private static void ranks() {
        Bench.sentence("ranks 0 .. 7");
        for (int k = 3; k < 11; k++) {
            dueOfByte(blankImage(8, 1, 1), k, 0, true);
            dueOfByte(blankImage(8, 1, 1), k, 7, true);
            dueOfByte(blankImage(8, 1, 1), k, 8, false);
            dueOfByte(blankImage(8, 1, 1), k, 128, false);
            dueOfByte(blankImage(8, 1, 1), k, 255, false);
        }
    }

    /** Three classes of 1, 3 and 6 permissions and two types; the masks of a class are 4 + 5 of its 13 bytes. */
    private static void bitsOfPermissions() {
        Bench.sentence("masks have bits of permissions alone");
        int[] image = blankImage(2, 3, 1);
        image[3] = 3;
        image[4] = 6;
        for (int c = 0; c < 3; c++) {
            int all = (1 << image[2 + c]) - 1;
            for (int k = 0; k < 13; k++) {
                boolean isMask = k < 4 || k >= 8;
                for (int bit = 0; isMask && bit < 8; bit++) {
                    dueOfByte(image, 7 + 13 * c + k, 1 << bit, bit < image[2 + c]);
                }
                if (isMask) {
                    dueOfByte(image, 7 + 13 * c + k, all, true);
                    dueOfByte(image, 7 + 13 * c + k, all + 2, false);
                    dueOfByte(image, 7 + 13 * c + k, 255, false);
                }
            }
        }
    }

    private static void typesThatAreMade() {
        Bench.sentence("types that are made at most T");
        for (int types = 1; types <= 3; types++) {
            int[] image = blankImage(types, 1, 1);
            for (int k = 0; k < types * types; k++) {
                int at = 3 + types + types * types + k;
                dueOfByte(image, at, 0, true);
                dueOfByte(image, at, types, true);
                dueOfByte(image, at, types + 1, false);
                dueOfByte(image, at, 128, false);
                dueOfByte(image, at, 255, false);
            }
        }
        int[] eight = blankImage(8, 3, 1);
        dueOfByte(eight, 406, 8, true);
        dueOfByte(eight, 406, 9, false);
    }

    private static void noByteLess() {
        Bench.sentence("there is no byte less");
        int[][] images = {blankImage(1, 1, 1), blankImage(2, 2, 6), blankImage(8, 3, 6)};
        for (int[] image : images) {
            for (int length = image.length - 1; length >= Math.max(0, image.length - 40); length--) {
                dueOfRead(length + " bytes of " + image.length, Arrays.copyOf(image, length), false);
            }
        }
        dueOfRead("no byte", new int[0], false);
        dueOfRead("one byte", new int[] {1}, false);
    }

    private static void noByteMore() {
        Bench.sentence("there is no byte more");
        int[][] images = {blankImage(1, 1, 1), blankImage(2, 2, 6), blankImage(8, 3, 6)};
        for (int[] image : images) {
            for (int more = 1; more <= 8; more++) {
                dueOfRead(more + " bytes behind " + image.length, Arrays.copyOf(image, image.length + more), false);
            }
        }
    }
}
