import java.util.Arrays;

/** Promise 15: read, with when an image is well formed. */
public final class Promise15Test {
    /** Two types and two classes, of three and one permissions. */
    private static final int[] IMAGE = {
        2, 2, 3, 1, 7, 2,
        5, 3, 0, 7, 0, 2, 1, 0, 1, 2, 4, 6, 7,
        1, 0, 1, 1, 2, 2, 0, 1, 0, 1, 0, 1, 1
    };

    public static void main(String[] args) {
        wellFormed();
        eachByte();
        lengths();
        heads();
        nothingIsFedThen();
        policyBefore();
        overThere();
        greatest();
        Bench.finish();
    }

    private static void wellFormed() {
        Bench bench = new Bench(1);
        bench.feed(IMAGE);
        Bench.due("read", bench.read(), 2);
        Bench.due("types", bench.desk.count(0), 2);
        Bench.due("classes", bench.desk.count(1), 2);
        Bench.due("image", bench.desk.image(), IMAGE.length);
        Bench.due("its bytes", bench.imageBytes(), spaced(IMAGE));
        // ranks 7 and 2: for type 0 to type 1 both = and < forbid, for type 1 to type 0 both > and =
        Bench.due("may(0, 0, 0)", bench.may(0, 0, 0), 5);
        Bench.due("may(0, 1, 0)", bench.may(0, 1, 0), 3 & ~(2 | 4));
        Bench.due("may(1, 1, 0)", bench.may(1, 1, 0), 7);
        Bench.due("may(1, 0, 1)", bench.may(1, 0, 1), 0);
        Bench.due("may(1, 1, 1)", bench.may(1, 1, 1), 1);
        Bench.due("may(0, 0, 2)", bench.may(0, 0, 2), Bench.NO_ELEMENT);
        Bench.due("made(0, 1, 0)", bench.desk.made(0, 1, 0), 1);
        Bench.due("made(0, 0, 0)", bench.desk.made(0, 0, 0), PolicyDesk.NONE);
        Bench.due("made(1, 0, 1)", bench.desk.made(1, 0, 1), PolicyDesk.NONE);
        Bench.due("made(1, 1, 1)", bench.desk.made(1, 1, 1), 0);
        Bench.due("flow(0, 1)", bench.desk.flow(0, 1), 1);
    }

    /** For each byte the greatest that may be there and the one above it. */
    private static void eachByte() {
        int[] most = new int[IMAGE.length];
        Arrays.fill(most, 0, 4, -1);
        Arrays.fill(most, 4, 6, 7);
        Arrays.fill(most, 6, 10, 7);
        Arrays.fill(most, 10, 14, 2);
        Arrays.fill(most, 14, 19, 7);
        Arrays.fill(most, 19, 23, 1);
        Arrays.fill(most, 23, 27, 2);
        Arrays.fill(most, 27, 32, 1);
        for (int k = 4; k < IMAGE.length; k++) {
            dueOfChange(k, 0, "2");
            dueOfChange(k, most[k], "2");
            dueOfChange(k, most[k] + 1, Bench.BAD_ARGUMENT);
            dueOfChange(k, 64, Bench.BAD_ARGUMENT);
            dueOfChange(k, 128, Bench.BAD_ARGUMENT);
            dueOfChange(k, 255, Bench.BAD_ARGUMENT);
        }
    }

    private static void dueOfChange(int k, int value, String want) {
        int[] changed = IMAGE.clone();
        changed[k] = value;
        Bench bench = new Bench(1);
        bench.feed(changed);
        Bench.due("read with byte " + k + " being " + value, bench.read(), want);
        bench.desk.image();
        Bench.due("image then", bench.imageBytes(), want.equals("2") ? spaced(changed) : "");
    }

    private static void lengths() {
        for (int length = 0; length < IMAGE.length; length++) {
            Bench bench = new Bench(1);
            bench.feed(Arrays.copyOf(IMAGE, length));
            Bench.due("read of " + length + " bytes", bench.read(), Bench.BAD_ARGUMENT);
        }
        Bench bench = new Bench(1);
        bench.feed(Arrays.copyOf(IMAGE, IMAGE.length + 1));
        Bench.due("read of a byte more", bench.read(), Bench.BAD_ARGUMENT);
    }

    /** Images of zeros that have the length that the first bytes ask for. */
    private static void heads() {
        for (int types = 0; types <= 9; types++) {
            for (int classes = 0; classes <= 4; classes++) {
                for (int permissions = 0; permissions <= 7; permissions++) {
                    int[] image = new int[2 + classes + types + classes * (2 * types * types + 5)];
                    if (image.length <= 420) {
                        image[0] = types;
                        image[1] = classes;
                        Arrays.fill(image, 2, 2 + classes, permissions);
                        dueOfHead(image, types, classes, permissions);
                    }
                }
            }
        }
        dueOfBytes(Bench.BAD_ARGUMENT, 255, 1, 1, 0, 0, 0, 0, 0, 0, 0, 0);
        dueOfBytes(Bench.BAD_ARGUMENT, 1, 255, 1, 0, 0, 0, 0, 0, 0, 0, 0);
        dueOfBytes(Bench.BAD_ARGUMENT, 1, 1, 255, 0, 0, 0, 0, 0, 0, 0, 0);
        dueOfBytes(Bench.BAD_ARGUMENT, 0, 1, 1, 0, 0, 0, 0, 0, 0, 0, 0);
        dueOfBytes(Bench.BAD_ARGUMENT, 1, 0, 1, 0, 0, 0, 0, 0, 0, 0, 0);
        dueOfBytes(Bench.BAD_ARGUMENT, 1, 1, 0, 0, 0, 0, 0, 0, 0, 0, 0);
        dueOfBytes("1", 1, 1, 1, 0, 0, 0, 0, 0, 0, 0, 0);
    }

    private static void dueOfHead(int[] image, int types, int classes, int permissions) {
        boolean right = types >= 1 && types <= 8 && classes >= 1 && classes <= 3 && permissions >= 1 && permissions <= 6;
        dueOfBytes(right ? String.valueOf(types) : Bench.BAD_ARGUMENT, image);
    }

    private static void dueOfBytes(String want, int... bytes) {
        Bench bench = new Bench(1);
        Bench.due("feed of " + bytes.length + " bytes", bench.feed(bytes), bytes.length);
        Bench.due("read of " + spaced(bytes), bench.read(), want);
    }

    private static void nothingIsFedThen() {
        Bench bench = new Bench(1);
        Bench.due("read of nothing", bench.read(), Bench.BAD_ARGUMENT);
        bench.feed(IMAGE);
        Bench.due("read", bench.read(), 2);
        Bench.due("read again", bench.read(), Bench.BAD_ARGUMENT);
        bench.feed(9, 9);
        Bench.due("read of no image", bench.read(), Bench.BAD_ARGUMENT);
        Bench.due("feed behind it", bench.desk.feed(0, 1), 1);
        Bench.due("read of one byte", bench.read(), Bench.BAD_ARGUMENT);
        Bench.due("feed of an image behind it", bench.feed(IMAGE), IMAGE.length);
        Bench.due("read of it", bench.read(), 2);
    }

    private static void policyBefore() {
        Bench bench = Bench.with("class f p", "type a", "allow a a f p");
        bench.accept();
        bench.may(0, 0, 0);
        bench.feed(Arrays.copyOf(IMAGE, IMAGE.length - 1));
        Bench.due("read of a byte less", bench.read(), Bench.BAD_ARGUMENT);
        Bench.due("types of the policy before", bench.desk.count(0), 1);
        Bench.due("answers of the policy before", bench.desk.count(4), 1);
        Bench.due("may by the policy before", bench.may(0, 0, 0), 1);
        Bench.due("hits", bench.desk.count(2), 1);
        bench.desk.image();
        Bench.due("image of the policy before", bench.imageBytes(), "1 1 1 0 1 0 0 0 0 0 0");
        Bench.due("statements of the draft", bench.desk.count(5), 3);
        bench.feed(IMAGE);
        Bench.due("read", bench.read(), 2);
        Bench.due("statements of the draft after read", bench.desk.count(5), 3);
        Bench.due("accept after read", bench.accept(), 1);
        bench.desk.image();
        Bench.due("image after accept", bench.imageBytes(), "1 1 1 0 1 0 0 0 0 0 0");
    }

    /** An image of one desk makes the same policy at another one. */
    private static void overThere() {
        Bench from = Bench.with("class f p q", "class g r", "type a x", "type b x", "type c", "allow x c f p", "allow c self g r",
                "make a c g b", "rank b 4", "need f < p", "sees f p", "puts g r", "allow b a g r");
        from.accept();
        int length = from.desk.image();
        Bench to = new Bench(1);
        for (int k = 0; k < length; k++) {
            to.feed(from.desk.imageAt(k));
        }
        Bench.due("read over there", to.read(), 3);
        for (int k = 0; k < 18; k++) {
            Bench.due("may over there, " + k, to.may(k / 6, k / 2 % 3, k % 2), from.may(k / 6, k / 2 % 3, k % 2));
            Bench.due("flow over there, " + k, to.desk.flow(k / 6, k / 2 % 3), from.desk.flow(k / 6, k / 2 % 3));
        }
        to.desk.image();
        Bench.due("image over there", to.imageBytes(), from.imageBytes());
    }

    private static void greatest() {
        int[] image = new int[412];
        Arrays.fill(image, 1);
        image[0] = 8;
        image[1] = 3;
        image[411 - 5] = 8;
        Bench bench = new Bench(1);
        for (int k = 0; k + 8 <= image.length; k += 8) {
            bench.desk.feed(eight(image, k), 8);
        }
        Bench.due("feed of the greatest image", bench.desk.feed(eight(image, 408), 4), 412);
        Bench.due("read of the greatest image", bench.read(), 8);
        Bench.due("made(7, 7, 2)", bench.desk.made(7, 7, 2), 7);
        bench.desk.image();
        Bench.due("bytes of the greatest image", bench.imageBytes(), spaced(image));
    }

    private static long eight(int[] image, int from) {
        long w = 0;
        for (int k = from; k < from + 8; k++) {
            w = w << 8 | (k < image.length ? image[k] : 0);
        }
        return w;
    }

    private static String spaced(int[] bytes) {
        return Arrays.toString(bytes).replaceAll("[\\[\\],]", "");
    }
}
