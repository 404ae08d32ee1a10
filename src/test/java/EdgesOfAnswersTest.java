import java.util.Arrays;

/** Promises 8 to 15, which ask a policy, write it and read it; a method for each sentence that names a boundary. */
public final class EdgesOfAnswersTest {
    private static final int NONE = PolicyDesk.NONE;
    /** Numbers that are far off, and some that come back to 0 or 1 if shifted, multiplied or cut to fewer bits. */
    private static final int[] FAR = {
        Integer.MIN_VALUE, Integer.MIN_VALUE + 1, -65536, -256, -64, -32, -8, -2, -1, 32, 33, 64, 256, 257, 65536, 1 << 26, 1 << 29,
        1 << 30, Integer.MAX_VALUE
    };
    private static final String LEAST = "1 1 1 0 1 0 0 0 0 0 0";

    public static void main(String[] args) {
        mayThroughTheMemory();
        mayWithoutAPolicy();
        mayOfNoSuchType();
        mayOfNoSuchClass();
        madeNone();
        madeWithoutAPolicy();
        madeOfNoSuch();
        leastNumberOfSteps();
        longestFlow();
        flowThatCant();
        flowWithoutAPolicy();
        flowOfNoSuchType();
        flowToItself();
        countOfEach();
        countOfAnother();
        countWithoutAPolicy();
        imageLengths();
        imageOfNone();
        imageAtItsEnds();
        imageAtBeforeAnImage();
        imageWrittenLatest();
        feedOneToEight();
        feedOfWrongNumber();
        feedOfMoreThan420();
        readMakesThePolicy();
        nothingOfPoliciesBefore();
        readAnswersTypes();
        nothingFedAfterAnAnswer();
        nothingFedAfterAThrow();
        readOfNoImage();
        all512();
        Bench.finish();
    }

    /** Three types and two classes. */
    private static Bench three() {
        return three(8);
    }

    private static Bench three(int size) {
        Bench bench = Bench.sized(size, "class f p", "class g p", "type a x", "type b x", "type c x", "allow x x f p", "allow x x g p",
                "make a a f a", "make b b g b");
        bench.accept();
        return bench;
    }

    private static void mayThroughTheMemory() {
        Bench.sentence("Promise 8: a mask, asked for through the memory");
        Bench bench = three();
        for (int k = 0; k < 4; k++) {
            Bench.due("may(2, 2, 1)", bench.may(2, 2, 1), 1);
            Bench.due("hits", bench.desk.count(2), k);
            Bench.due("misses", bench.desk.count(3), 1);
            Bench.due("answers", bench.desk.count(4), 1);
        }
    }

    private static void dueNoQuestion(Bench bench, int s, int t, int c) {
        Bench.due("may(" + s + ", " + t + ", " + c + ")", bench.may(s, t, c), Bench.NO_ELEMENT);
    }

    private static void dueUntouched(Bench bench) {
        Bench.due("hits", bench.desk.count(2), 0);
        Bench.due("misses", bench.desk.count(3), 0);
        Bench.due("answers", bench.desk.count(4), 0);
    }

    private static void mayWithoutAPolicy() {
        Bench.sentence("Promise 8: NoSuchElementException if there is no policy");
        Bench bench = Bench.with("class f p", "type a", "allow a a f p");
        dueNoQuestion(bench, 0, 0, 0);
        dueNoQuestion(bench, -1, -1, -1);
        dueNoQuestion(bench, 7, 7, 2);
        dueUntouched(bench);
    }

    private static void mayOfNoSuchType() {
        Bench.sentence("Promise 8: NoSuchElementException if there is no such type");
        Bench bench = three();
        for (int type : FAR) {
            dueNoQuestion(bench, type, 0, 0);
            dueNoQuestion(bench, 0, type, 0);
            dueNoQuestion(bench, type, type, 1);
        }
        for (int type = 3; type <= 9; type++) {
            dueNoQuestion(bench, type, 0, 0);
            dueNoQuestion(bench, 0, type, 0);
        }
        dueUntouched(bench);
        Bench.due("may(2, 2, 0)", bench.may(2, 2, 0), 1);
    }

    private static void mayOfNoSuchClass() {
        Bench.sentence("Promise 8: NoSuchElementException if there is no such class");
        Bench bench = three();
        for (int c : FAR) {
            dueNoQuestion(bench, 0, 0, c);
        }
        dueNoQuestion(bench, 0, 0, 2);
        dueNoQuestion(bench, 2, 2, 2);
        dueNoQuestion(bench, 0, 0, 3);
        dueUntouched(bench);
        Bench.due("may(0, 0, 1)", bench.may(0, 0, 1), 1);
    }

    private static void dueNotMade(Bench bench, int s, int t, int c) {
        Bench.due("made(" + s + ", " + t + ", " + c + ")", bench.desk.made(s, t, c), NONE);
    }

    private static void madeNone() {
        Bench.sentence("Promise 9: The type that s and t of class c make; NONE if none");
        Bench bench = three();
        Bench.due("made(0, 0, 0)", bench.desk.made(0, 0, 0), 0);
        Bench.due("made(1, 1, 1)", bench.desk.made(1, 1, 1), 1);
        dueNotMade(bench, 0, 0, 1);
        dueNotMade(bench, 1, 1, 0);
        dueNotMade(bench, 0, 1, 0);
        dueNotMade(bench, 1, 0, 0);
        dueNotMade(bench, 2, 2, 1);
        dueUntouched(bench);
    }

    private static void madeWithoutAPolicy() {
        Bench.sentence("Promise 9: NONE if there is no policy");
        Bench bench = Bench.with("class f p", "type a", "make a a f a");
        dueNotMade(bench, 0, 0, 0);
        dueNotMade(bench, -1, 0, 0);
        dueNotMade(bench, 7, 7, 2);
        bench.accept();
        Bench.due("made with a policy", bench.desk.made(0, 0, 0), 0);
    }

    private static void madeOfNoSuch() {
        Bench.sentence("Promise 9: NONE if there is no such type or class");
        Bench bench = three();
        for (int far : FAR) {
            dueNotMade(bench, far, 0, 0);
            dueNotMade(bench, 0, far, 0);
            dueNotMade(bench, 0, 0, far);
            dueNotMade(bench, far, far, far);
        }
        for (int type = 3; type <= 9; type++) {
            dueNotMade(bench, type, 0, 0);
            dueNotMade(bench, 0, type, 0);
        }
        dueNotMade(bench, 0, 0, 2);
        dueNotMade(bench, 0, 0, 3);
    }

    private static void leastNumberOfSteps() {
        Bench.sentence("Promise 10: The least number of steps in which what type a knows flows to type b");
        // from a to e by b, c, d, by d alone, and not at once
        Bench bench = Bench.with("class f p", "type a", "type b", "type c", "type d", "type e", "puts f p", "allow a b f p",
                "allow b c f p", "allow c d f p", "allow d e f p", "allow a d f p");
        bench.accept();
        Bench.due("flow(0, 4)", bench.desk.flow(0, 4), 2);
        Bench.due("flow(0, 3)", bench.desk.flow(0, 3), 1);
        Bench.due("flow(0, 2)", bench.desk.flow(0, 2), 2);
        Bench.due("flow(1, 4)", bench.desk.flow(1, 4), 3);
        bench.addAll("allow a e f p");
        bench.accept();
        Bench.due("flow(0, 4) at once", bench.desk.flow(0, 4), 1);
    }

    /** Eight types, each putting to the next: seven steps are the most. */
    private static void longestFlow() {
        Bench.sentence("Promise 10: The least number of steps, the most of which are seven");
        Bench bench = Bench.with("class f p", "puts f p", "type a", "type b", "type c", "type d", "type e", "type f", "type g", "type h");
        for (char type = 'a'; type < 'h'; type++) {
            bench.addAll("allow " + type + " " + (char) (type + 1) + " f p");
        }
        bench.accept();
        for (int k = 0; k < 64; k++) {
            int want = k / 8 <= k % 8 ? k % 8 - k / 8 : NONE;
            Bench.due("flow(" + k / 8 + ", " + k % 8 + ")", bench.desk.flow(k / 8, k % 8), want);
        }
        bench.addAll("allow h a f p");
        bench.accept();
        for (int k = 0; k < 64; k++) {
            Bench.due("flow(" + k / 8 + ", " + k % 8 + ") round", bench.desk.flow(k / 8, k % 8), (k % 8 - k / 8 + 8) % 8);
        }
    }

    private static void flowThatCant() {
        Bench.sentence("Promise 10: NONE if it can't");
        Bench bench = three();
        Bench.due("flow without sees and puts", bench.desk.flow(0, 1), NONE);
        bench.addAll("sees g p", "type d");
        bench.accept();
        Bench.due("flow(0, 1)", bench.desk.flow(0, 1), 1);
        Bench.due("flow(0, 3)", bench.desk.flow(0, 3), NONE);
        Bench.due("flow(3, 0)", bench.desk.flow(3, 0), NONE);
    }

    private static void flowWithoutAPolicy() {
        Bench.sentence("Promise 10: NONE if there is no policy");
        Bench bench = Bench.with("class f p", "type a", "type b");
        Bench.due("flow(0, 0)", bench.desk.flow(0, 0), NONE);
        Bench.due("flow(0, 1)", bench.desk.flow(0, 1), NONE);
        Bench.due("flow(-1, -1)", bench.desk.flow(-1, -1), NONE);
    }

    private static void flowOfNoSuchType() {
        Bench.sentence("Promise 10: NONE if there is no such type");
        Bench bench = three();
        bench.addAll("sees g p");
        bench.accept();
        for (int type : FAR) {
            dueNoFlow(bench, type);
        }
        for (int type = 3; type <= 9; type++) {
            dueNoFlow(bench, type);
        }
    }

    private static void dueNoFlow(Bench bench, int type) {
        Bench.due("flow(" + type + ", 0)", bench.desk.flow(type, 0), NONE);
        Bench.due("flow(0, " + type + ")", bench.desk.flow(0, type), NONE);
        Bench.due("flow(" + type + ", " + type + ")", bench.desk.flow(type, type), NONE);
    }

    private static void flowToItself() {
        Bench.sentence("Promise 10: 0 from a type to itself");
        Bench bench = three();
        for (int type = 0; type < 3; type++) {
            Bench.due("flow without sees and puts", bench.desk.flow(type, type), 0);
        }
        bench.addAll("sees g p", "puts f p");
        bench.accept();
        for (int type = 0; type < 3; type++) {
            Bench.due("flow of what sees itself", bench.desk.flow(type, type), 0);
        }
        Bench one = Bench.with("class f p", "type a");
        one.accept();
        Bench.due("flow of the only type", one.desk.flow(0, 0), 0);
    }

    private static void countOfEach() {
        Bench.sentence("Promise 11: What 0: types; 1: classes; 2: hits; 3: misses; 4: answers; 5: statements of the draft");
        Bench bench = three(5);
        for (int k = 0; k < 6; k++) {
            bench.may(k / 3, k % 3, 0);
        }
        bench.may(1, 2, 0);
        bench.addAll("rank a 1");
        int[] want = {3, 2, 1, 6, 5, 10};
        for (int what = 0; what <= 5; what++) {
            Bench.due("count(" + what + ")", bench.desk.count(what), want[what]);
        }
    }

    private static void countOfAnother() {
        Bench.sentence("Promise 11: 0 for another what");
        Bench bench = three();
        bench.may(0, 0, 0);
        bench.may(0, 0, 0);
        for (int what : FAR) {
            Bench.due("count(" + what + ")", bench.desk.count(what), 0);
        }
        for (int what = 6; what <= 16; what++) {
            Bench.due("count(" + what + ")", bench.desk.count(what), 0);
        }
    }

    private static void countWithoutAPolicy() {
        Bench.sentence("Promise 11: and for 0 and 1 without a policy");
        Bench bench = Bench.with("class f p", "type a");
        Bench.due("count(0)", bench.desk.count(0), 0);
        Bench.due("count(1)", bench.desk.count(1), 0);
        Bench.due("count(5)", bench.desk.count(5), 2);
        bench.accept();
        Bench.due("count(0) with one", bench.desk.count(0), 1);
        Bench.due("count(1) with one", bench.desk.count(1), 1);
    }

    private static void imageLengths() {
        Bench.sentence("Promise 12: The policy is written as an image: how many bytes");
        String[] classes = {"class f p", "class g p", "class h p"};
        for (int c = 1; c <= 3; c++) {
            Bench bench = Bench.with(Arrays.copyOf(classes, c));
            for (int t = 1; t <= 8; t++) {
                bench.addAll("type " + (char) ('a' + t));
                bench.accept();
                Bench.due("image of " + t + " types and " + c + " classes", bench.desk.image(), 2 + c + t + c * (2 * t * t + 5));
            }
        }
    }

    private static void imageOfNone() {
        Bench.sentence("Promise 12: 0, and the image before stays, if there is none");
        Bench bench = Bench.with("class f p", "type a", "type a");
        Bench.due("image", bench.desk.image(), 0);
        Bench.due("imageAt(0)", bench.desk.imageAt(0), NONE);
        Bench.due("accept of what is wrong", bench.accept(), Bench.BAD_ARGUMENT);
        Bench.due("read of nothing", bench.read(), Bench.BAD_ARGUMENT);
        Bench.due("image then", bench.desk.image(), 0);
        Bench.due("imageAt(0) then", bench.desk.imageAt(0), NONE);
    }

    private static void imageAtItsEnds() {
        Bench.sentence("Promise 13: Byte k of the image written latest; NONE if there is none");
        Bench bench = three();
        int length = bench.desk.image();
        Bench.due("image", length, 2 + 2 + 3 + 2 * 23);
        Bench.due("the first byte", bench.desk.imageAt(0), 3);
        Bench.due("the last byte", bench.desk.imageAt(length - 1), 0);
        Bench.due("before the first byte", bench.desk.imageAt(-1), NONE);
        Bench.due("behind the last byte", bench.desk.imageAt(length), NONE);
        Bench.due("byte 411", bench.desk.imageAt(411), NONE);
        Bench.due("byte 419", bench.desk.imageAt(419), NONE);
        Bench.due("byte 420", bench.desk.imageAt(420), NONE);
        Bench.due("byte of the least number", bench.desk.imageAt(Integer.MIN_VALUE), NONE);
        Bench.due("byte of the greatest number", bench.desk.imageAt(Integer.MAX_VALUE), NONE);
    }

    private static void imageAtBeforeAnImage() {
        Bench.sentence("Promise 13: NONE if there is none: before an image");
        Bench bench = three();
        for (int k = -1; k <= 12; k++) {
            Bench.due("imageAt(" + k + ")", bench.desk.imageAt(k), NONE);
        }
        bench.feed(1, 1, 1, 0, 1, 0, 0, 0, 0, 0, 0);
        Bench.due("imageAt(0) after a feed", bench.desk.imageAt(0), NONE);
        bench.read();
        Bench.due("imageAt(0) after a read", bench.desk.imageAt(0), NONE);
    }

    private static void imageWrittenLatest() {
        Bench.sentence("Promise 13: the image written latest");
        Bench bench = Bench.with("class f p", "type a", "allow a a f p");
        bench.accept();
        Bench.due("image", bench.desk.image(), 11);
        bench.addAll("type b");
        bench.accept();
        Bench.due("bytes of the image before", bench.imageBytes(), LEAST);
        bench.feed(9, 9, 9);
        bench.read();
        Bench.due("bytes after a read that threw", bench.imageBytes(), LEAST);
        Bench.due("the next image", bench.desk.image(), 18);
        Bench.due("its bytes", bench.imageBytes(), "2 1 1 0 0 1 0 0 0 0 0 0 0 0 0 0 0 0");
        bench.desk.cut(3);
        bench.accept();
        Bench.due("a shorter one", bench.desk.image(), 11);
        Bench.due("its bytes alone", bench.imageBytes(), LEAST);
    }

    private static void feedOneToEight() {
        Bench.sentence("Promise 14: The first n (1 .. 8) bytes of w, from the highest on, are fed: how many bytes are fed then");
        long head = 0x0101060704050607L;
        int[] bytes = {1, 1, 6, 7, 4, 0, 6, 7, 8, 9, 10};
        for (int n = 1; n <= 8; n++) {
            Bench bench = new Bench(1);
            long w = n <= 5 ? head : head & ~(255L << 16);
            Bench.due("feed of " + n, bench.desk.feed(w, n), n);
            for (int k = n; k < bytes.length; k++) {
                Bench.due("feed of one more", bench.desk.feed((long) bytes[k] << 56 | 0xffffff, 1), k + 1);
            }
            Bench.due("read of what was fed", bench.read(), 1);
            bench.desk.image();
            Bench.due("bytes with " + n + " at once", bench.imageBytes(), "1 1 6 7 4 0 6 7 8 9 10");
        }
    }

    private static void feedOfWrongNumber() {
        Bench.sentence("Promise 14: NONE, changing nothing, if n is not so");
        Bench bench = new Bench(1);
        bench.feed(1, 1, 1, 0, 1, 0, 0, 0, 0, 0);
        int[] wrong = {0, -1, -8, 9, 10, 16, 256, 257, Integer.MIN_VALUE, Integer.MAX_VALUE, Integer.MIN_VALUE + 1};
        for (int n : wrong) {
            Bench.due("feed of " + n, bench.desk.feed(-1, n), NONE);
        }
        Bench.due("feed of the last byte", bench.desk.feed(0, 1), 11);
        Bench.due("read", bench.read(), 1);
        bench.desk.image();
        Bench.due("bytes", bench.imageBytes(), LEAST);
    }

    private static void feedOfMoreThan420() {
        Bench.sentence("Promise 14: NONE, changing nothing, if they would be more than 420");
        for (int n = 1; n <= 8; n++) {
            Bench bench = new Bench(1);
            for (int k = 8; k <= 408; k += 8) {
                Bench.due("feed of 8", bench.desk.feed(0, 8), k);
            }
            int before = 420 - (n - 1);
            for (int k = 409; k <= before; k++) {
                Bench.due("feed of 1", bench.desk.feed(0, 1), k);
            }
            Bench.due("feed of " + n + " with room for " + (n - 1), bench.desk.feed(0, n), NONE);
            Bench.due("feed of 8 with no such room", bench.desk.feed(0, 8), NONE);
            for (int k = before + 1; k <= 420; k++) {
                Bench.due("feed of 1", bench.desk.feed(0, 1), k);
            }
            Bench.due("feed behind 420", bench.desk.feed(0, 1), NONE);
        }
        Bench whole = new Bench(1);
        for (int k = 0; k < 52; k++) {
            whole.desk.feed(0, 8);
        }
        Bench.due("feed of 4 up to 420", whole.desk.feed(0, 4), 420);
        Bench.due("read of 420", whole.read(), Bench.BAD_ARGUMENT);
        Bench.due("feed after it", whole.desk.feed(0, 8), 8);
    }

    private static void readMakesThePolicy() {
        Bench.sentence("Promise 15: What was fed becomes the policy");
        Bench bench = three();
        bench.feed(1, 1, 2, 3, 2, 1, 0, 0, 0, 0, 2);
        Bench.due("types before read", bench.desk.count(0), 3);
        bench.read();
        Bench.due("classes after read", bench.desk.count(1), 1);
        Bench.due("may", bench.may(0, 0, 0), 2);
        Bench.due("made", bench.desk.made(0, 0, 0), 0);
        dueNoQuestion(bench, 1, 0, 0);
        dueNoQuestion(bench, 0, 0, 1);
        Bench.due("flow of a type that was", bench.desk.flow(1, 1), NONE);
        Bench.due("statements of the draft", bench.desk.count(5), 9);
        bench.desk.image();
        Bench.due("bytes", bench.imageBytes(), "1 1 2 3 2 1 0 0 0 0 2");
    }

    private static void nothingOfPoliciesBefore() {
        Bench.sentence("Promise 15: What was fed becomes the policy, and nothing of those before stays");
        Bench bench = new Bench(1);
        for (int k = 0; k < 2; k++) {
            bench.feed(1, 1, 2, 7, 3, 1, 3, 3, 3, 3, 3);
            Bench.due("read of much", bench.read(), 1);
        }
        for (int k = 0; k < 2; k++) {
            bench.feed(1, 1, 2, 0, 0, 0, 0, 0, 0, 0, 0);
            Bench.due("read of little", bench.read(), 1);
            bench.desk.image();
            Bench.due("image of little", bench.imageBytes(), "1 1 2 0 0 0 0 0 0 0 0");
        }
        bench.feed(1, 1, 2, 7, 3, 1, 3, 3, 3, 3, 3, 3);
        Bench.due("read of too much", bench.read(), Bench.BAD_ARGUMENT);
        bench.addAll("class f p q", "type a");
        Bench.due("accept of little", bench.accept(), 1);
        bench.desk.image();
        Bench.due("image of little at last", bench.imageBytes(), "1 1 2 0 0 0 0 0 0 0 0");
    }

    private static void readAnswersTypes() {
        Bench.sentence("Promise 15: how many types it has");
        for (int types = 1; types <= 8; types++) {
            Bench bench = new Bench(1);
            bench.feed(types, 1, 1);
            bench.feed(new int[types + 2 * types * types + 5]);
            Bench.due("read of " + types, bench.read(), types);
            Bench.due("types then", bench.desk.count(0), types);
        }
    }

    private static void nothingFedAfterAnAnswer() {
        Bench.sentence("Promise 15: and nothing is fed any more");
        Bench bench = new Bench(1);
        bench.feed(1, 1, 1, 0, 1, 0, 0, 0, 0, 0, 0);
        Bench.due("read", bench.read(), 1);
        Bench.due("read again", bench.read(), Bench.BAD_ARGUMENT);
        Bench.due("types then", bench.desk.count(0), 1);
        Bench.due("feed", bench.feed(1, 1, 1, 0, 0, 0, 0, 0, 0, 0, 0), 11);
        Bench.due("read of the next", bench.read(), 1);
        Bench.due("may then", bench.may(0, 0, 0), 0);
    }

    private static void nothingFedAfterAThrow() {
        Bench.sentence("Promise 15: nothing is fed any more, whatever it throws");
        Bench bench = new Bench(1);
        bench.feed(1, 1, 1, 0, 1, 0, 0, 0, 0, 0);
        Bench.due("read of a byte less", bench.read(), Bench.BAD_ARGUMENT);
        Bench.due("feed of the byte", bench.feed(0), 1);
        Bench.due("read of the byte", bench.read(), Bench.BAD_ARGUMENT);
        Bench.due("feed of an image", bench.feed(1, 1, 1, 0, 1, 0, 0, 0, 0, 0, 0), 11);
        Bench.due("read of it", bench.read(), 1);
    }

    private static void readOfNoImage() {
        Bench.sentence("Promise 15: IllegalArgumentException if it is not well formed");
        Bench bench = Bench.with("class f p", "type a", "allow a a f p");
        bench.accept();
        int[][] rows = {
            {}, {1}, {0, 0}, {9, 1, 1}, {1, 1, 1, 0, 1, 0, 0, 0, 0, 0}, {1, 1, 1, 0, 1, 0, 0, 0, 0, 0, 0, 0},
            {1, 1, 1, 0, 2, 0, 0, 0, 0, 0, 0}, {1, 1, 1, 0, 0, 2, 0, 0, 0, 0, 0}, {1, 1, 1, 0, 0, 0, 0, 0, 0, 0, 2},
            {1, 1, 1, 8, 0, 0, 0, 0, 0, 0, 0}, {1, 1, 7, 0, 0, 0, 0, 0, 0, 0, 0}
        };
        for (int[] row : rows) {
            bench.feed(row);
            Bench.due("read of " + Arrays.toString(row), bench.read(), Bench.BAD_ARGUMENT);
            Bench.due("image then", bench.desk.image(), 11);
            Bench.due("bytes of the policy before", bench.imageBytes(), LEAST);
        }
    }

    /** All that a desk is promised to answer are 512 calls; the last ones are as good as the first. */
    private static void all512() {
        Bench.sentence("What it is: An object is used for at most 512 calls after it has been made");
        PolicyDesk desk = new PolicyDesk(8);
        int calls = 0;
        int[] image = {8, 1, 1};
        for (int k = 0; k < 3 + 8 + 128 + 5; k++) {
            desk.feed((long) (k < 3 ? image[k] : 0) << 56, 1);
            calls++;
        }
        Bench.due("read at call " + ++calls, Bench.outcome(desk::read), 8);
        int asked = 0;
        while (calls < 510) {
            int s = asked % 8;
            int t = asked / 8 % 8;
            Bench.due("may at call " + ++calls, Bench.outcome(() -> desk.may(s, t, 0)), 0);
            asked++;
        }
        Bench.due("misses at call " + ++calls, desk.count(3), asked);
        Bench.due("flow at call " + ++calls, desk.flow(7, 7), 0);
    }
}
