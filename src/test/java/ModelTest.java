import java.util.ArrayDeque;
import java.util.ArrayList;
import java.util.Collections;
import java.util.Deque;
import java.util.List;
import java.util.Random;

/** Runs of calls, the same ones each time, whose answers must be those of the model. */
public final class ModelTest {
    private static final int RUNS = 1500;
    private static final int CALLS = 512;
    private static final String[] KEYWORDS = {"class", "type", "allow", "never", "make", "rank", "need", "sees", "puts"};
    private static final String[] TYPES = {"a", "b", "c", "d", "ef", "ghi", "jklm", "self", "zz", "nope"};
    private static final String[] ATTRIBUTES = {"x", "y", "z", "all", "self"};
    private static final String[] CLASSES = {"f", "g", "p", "node"};
    private static final String[] PERMISSIONS = {"p", "q", "f", "read", "put", "run", "self"};

    private final Random random;
    private final Bench bench;
    private final Model model;
    private final Deque<String> calls = new ArrayDeque<>();
    private int made = 0;
    private boolean same = true;
    /** How many types and classes are declared: names beyond them are used rarely. */
    private int types = 1;
    private int classes = 1;
    private final int[] permissions = {1, 1, 1, 1};

    private ModelTest(int run) {
        random = new Random(7919L * run + 13);
        int size = random.nextInt(12) - 1;
        bench = new Bench(size);
        model = new Model(size);
        calls.add("run " + run + ", size " + size);
    }

    public static void main(String[] args) {
        int differing = 0;
        for (int run = 0; run < RUNS && differing < 3; run++) {
            ModelTest test = new ModelTest(run);
            test.go();
            differing += test.same ? 0 : 1;
        }
        Bench.due("runs that differ", differing, 0);
        Bench.finish();
    }

    private boolean goesOn() {
        return same && made < CALLS;
    }

    private void dueSame(String call, Object got, Object want) {
        made++;
        calls.addLast(call + " -> " + got);
        if (!String.valueOf(got).equals(String.valueOf(want))) {
            same = false;
            calls.forEach(System.out::println);
            Bench.due(call, got, want);
        }
    }

    private void go() {
        if (random.nextInt(8) != 0) {
            declare();
        }
        while (goesOn()) {
            step();
        }
    }

    private void declare() {
        types = 1 + random.nextInt(8);
        classes = 1 + random.nextInt(3);
        List<String> texts = new ArrayList<>();
        for (int k = 0; k < classes; k++) {
            StringBuilder text = new StringBuilder("class ").append(CLASSES[k]);
            permissions[k] = 1 + random.nextInt(6);
            for (int p = 0; p < permissions[k]; p++) {
                text.append(' ').append(PERMISSIONS[p]);
            }
            texts.add(text.toString());
        }
        for (int k = 0; k < types; k++) {
            StringBuilder text = new StringBuilder("type ").append(TYPES[k]);
            for (int a = 0; a < 4; a++) {
                text.append(random.nextInt(3) == 0 ? " " + ATTRIBUTES[a] : "");
            }
            texts.add(text.toString());
        }
        if (random.nextBoolean()) {
            Collections.shuffle(texts, random);
        }
        texts.forEach(this::tell);
    }

    private void step() {
        if (model.count(5) < 2 && random.nextInt(4) == 0) {
            declare();
        }
        switch (random.nextInt(26)) {
            case 0, 1, 2, 3, 4, 5, 6 -> tell(statement());
            case 7 -> tell(damaged(statement()));
            case 8 -> writeSomething();
            case 9, 10 -> acceptAndMend();
            case 11, 12, 13, 14, 15 -> askOften();
            case 16 -> askOther();
            case 17, 18 -> flows();
            case 19 -> image();
            case 20 -> feedImage();
            case 21 -> feedSomething();
            case 22 -> dueSame("read()", bench.read(), model.read());
            case 23 -> cutSomewhere();
            case 24 -> counts();
            default -> fillDraft();
        }
    }

    private void tell(String text) {
        for (int k = 0; k < text.length(); k += 8) {
            write(Bench.packed(text.substring(k, Math.min(text.length(), k + 8))));
        }
        if (goesOn()) {
            dueSame("add() of '" + text + "'", Bench.outcome(bench.desk::add), model.add());
        }
        if (goesOn() && random.nextInt(3) == 0) {
            dueSame("position()", bench.desk.position(), model.position());
        }
    }

    private void write(long w) {
        if (goesOn()) {
            dueSame("write(" + w + ")", bench.desk.write(w), model.write(w));
        }
    }

    /** Mostly one that is right behind what was declared. */
    private String statement() {
        String keyword = KEYWORDS[2 + random.nextInt(7)];
        if (random.nextInt(3) == 0) {
            keyword = random.nextInt(5) == 0 ? KEYWORDS[random.nextInt(2)] : "allow";
        }
        int c = random.nextInt(60) == 0 ? random.nextInt(CLASSES.length) : random.nextInt(classes);
        switch (keyword) {
            case "class":
                return keyword + " " + pick(CLASSES, CLASSES.length) + names(PERMISSIONS, 1 + random.nextInt(7));
            case "type":
                return keyword + " " + pick(TYPES, TYPES.length) + names(ATTRIBUTES, random.nextInt(6));
            case "allow":
                return keyword + " " + doer(40) + " " + doer(4) + " " + CLASSES[c] + permissions(c, 3);
            case "never":
                return keyword + " " + doer(40) + " " + doer(4) + " " + CLASSES[c] + permissions(c, 1);
            case "make":
                return keyword + " " + knownType() + " " + knownType() + " " + CLASSES[c] + " " + knownType();
            case "rank":
                return keyword + " " + knownType() + " " + random.nextInt(random.nextInt(9) == 0 ? 10 : 8);
            case "need":
                return keyword + " " + CLASSES[c] + " " + ">=<!".charAt(random.nextInt(random.nextInt(9) == 0 ? 4 : 3))
                        + permissions(c, 2);
            default:
                return keyword + " " + CLASSES[c] + permissions(c, 2);
        }
    }

    private String knownType() {
        return pick(TYPES, random.nextInt(60) == 0 ? TYPES.length : Math.min(types, TYPES.length));
    }

    private String doer(int selfOneIn) {
        if (random.nextInt(selfOneIn) == 0) {
            return "self";
        }
        return random.nextInt(8) == 0 ? pick(ATTRIBUTES, 4) : knownType();
    }

    private String permissions(int c, int most) {
        StringBuilder row = new StringBuilder();
        int many = random.nextInt(12) == 0 ? 1 + random.nextInt(7) : 1 + random.nextInt(most);
        for (int k = 0; k < many; k++) {
            row.append(' ').append(pick(PERMISSIONS, random.nextInt(80) == 0 ? PERMISSIONS.length : permissions[c]));
        }
        return row.toString();
    }

    private String names(String[] pool, int many) {
        StringBuilder row = new StringBuilder();
        for (int k = 0; k < many; k++) {
            row.append(' ').append(pool[(k + random.nextInt(12) / 11) % pool.length]);
        }
        return row.toString();
    }

    private String pick(String[] pool, int of) {
        return pool[random.nextInt(of)];
    }

    private String damaged(String text) {
        StringBuilder row = new StringBuilder(text);
        for (int k = 0; k <= random.nextInt(2) && row.length() > 0; k++) {
            int at = random.nextInt(row.length());
            switch (random.nextInt(4)) {
                case 0 -> row.deleteCharAt(at);
                case 1 -> row.insert(at, (char) (32 + random.nextInt(95)));
                case 2 -> row.setLength(at);
                default -> row.setCharAt(at, " abz0789<=>!`{".charAt(random.nextInt(14)));
            }
        }
        row.append(random.nextInt(3) == 0 ? " " : "");
        return row.length() > 72 ? row.substring(0, 72) : row.toString();
    }

    private void writeSomething() {
        long w = random.nextLong() & random.nextLong() & 0x7f7f7f7f7f7f7f7fL;
        if (random.nextBoolean()) {
            w = Bench.packed(KEYWORDS[random.nextInt(9)] + " ab") & ~(255L << 8 * random.nextInt(8));
        }
        write(random.nextInt(6) == 0 ? random.nextLong() : w);
    }

    private void acceptAndMend() {
        for (int k = 0; k < 12 && goesOn(); k++) {
            dueSame("accept()", bench.accept(), model.accept());
            if (goesOn()) {
                dueSame("fault()", bench.desk.fault(), model.fault());
            }
            if (model.fault() == -1 || !goesOn()) {
                return;
            }
            if (random.nextInt(4) != 0) {
                cut(model.fault());
            }
        }
    }

    private void cut(int n) {
        if (goesOn()) {
            dueSame("cut(" + n + ")", bench.desk.cut(n), model.cut(n));
        }
    }

    private void cutSomewhere() {
        int many = model.count(5);
        cut(random.nextInt(3) == 0 ? random.nextInt(44) - 2 : Math.max(0, many - random.nextInt(4)));
    }

    private void askOften() {
        for (int k = 0; k < 6 && goesOn(); k++) {
            int s = random.nextInt(Math.max(1, model.count(0)));
            int t = random.nextInt(3) == 0 ? random.nextInt(Math.max(1, model.count(0))) : s;
            int c = random.nextInt(Math.max(1, model.count(1)));
            dueSame("may(" + s + ", " + t + ", " + c + ")", bench.may(s, t, c), model.may(s, t, c));
        }
        counts();
    }

    private void askOther() {
        int s = random.nextInt(11) - 1;
        int t = random.nextInt(11) - 1;
        int c = random.nextInt(6) - 1;
        if (goesOn()) {
            dueSame("may(" + s + ", " + t + ", " + c + ")", bench.may(s, t, c), model.may(s, t, c));
        }
        if (goesOn()) {
            dueSame("made(" + s + ", " + t + ", " + c + ")", bench.desk.made(s, t, c), model.made(s, t, c));
        }
        if (goesOn()) {
            dueSame("flow(" + s + ", " + t + ")", bench.desk.flow(s, t), model.flow(s, t));
        }
    }

    private void flows() {
        int many = Math.max(1, model.count(0));
        for (int k = 0; k < 5 && goesOn(); k++) {
            int a = random.nextInt(many);
            int b = random.nextInt(many);
            dueSame("flow(" + a + ", " + b + ")", bench.desk.flow(a, b), model.flow(a, b));
            int c = random.nextInt(3);
            if (goesOn()) {
                dueSame("made(" + a + ", " + b + ", " + c + ")", bench.desk.made(a, b, c), model.made(a, b, c));
            }
        }
    }

    private void image() {
        int length = 0;
        if (random.nextInt(4) != 0) {
            length = model.image();
            dueSame("image()", bench.desk.image(), length);
        }
        for (int k = 0; k < 30 && goesOn(); k++) {
            int at = length > 0 && random.nextInt(10) != 0 ? random.nextInt(length + 1) : random.nextInt(430) - 3;
            dueSame("imageAt(" + at + ")", bench.desk.imageAt(at), model.imageAt(at));
        }
    }

    private void feedImage() {
        List<Integer> bytes = random.nextBoolean() ? new ArrayList<>(model.bytes()) : inventedImage();
        if (random.nextInt(3) == 0 && !bytes.isEmpty()) {
            damage(bytes);
        }
        for (int k = 0; k < bytes.size() && goesOn(); k += 8) {
            int n = Math.min(8, bytes.size() - k);
            long w = random.nextLong();
            for (int j = 0; j < n; j++) {
                w = w & ~(255L << 56 - 8 * j) | (long) bytes.get(k + j) << 56 - 8 * j;
            }
            feed(w, n);
        }
        if (goesOn()) {
            dueSame("read()", bench.read(), model.read());
        }
        counts();
    }

    private List<Integer> inventedImage() {
        int many = 1 + random.nextInt(4);
        int kinds = 1 + random.nextInt(3);
        List<Integer> bytes = new ArrayList<>(List.of(many, kinds));
        List<Integer> permissions = new ArrayList<>();
        for (int c = 0; c < kinds; c++) {
            permissions.add(1 + random.nextInt(6));
        }
        bytes.addAll(permissions);
        for (int t = 0; t < many; t++) {
            bytes.add(random.nextInt(8));
        }
        for (int c = 0; c < kinds; c++) {
            for (int k = 0; k < 2 * many * many + 5; k++) {
                boolean isMask = k < many * many || k >= 2 * many * many;
                int mask = random.nextInt(1 << permissions.get(c)) & random.nextInt(1 << permissions.get(c));
                bytes.add(isMask ? mask : random.nextInt(many + 1));
            }
        }
        return bytes;
    }

    private void damage(List<Integer> bytes) {
        int at = random.nextInt(random.nextBoolean() ? bytes.size() : Math.min(6, bytes.size()));
        switch (random.nextInt(5)) {
            case 0 -> bytes.remove(at);
            case 1 -> bytes.add(at, random.nextInt(3));
            case 2 -> bytes.set(at, random.nextInt(256));
            default -> bytes.set(at, (bytes.get(at) + (random.nextBoolean() ? 1 : 255)) % 256);
        }
    }

    private void feedSomething() {
        boolean much = random.nextInt(6) == 0;
        for (int k = 0; k < (much ? 60 : 1) && goesOn(); k++) {
            feed(random.nextLong() & 0x0303030303030303L, much ? 8 : random.nextInt(12) - 1);
        }
    }

    private void feed(long w, int n) {
        if (goesOn()) {
            dueSame("feed(" + w + ", " + n + ")", bench.desk.feed(w, n), model.feed(w, n));
        }
    }

    private void counts() {
        for (int k = 0; k < 3 && goesOn(); k++) {
            int what = random.nextInt(8) - 1;
            dueSame("count(" + what + ")", bench.desk.count(what), model.count(what));
        }
    }

    private void fillDraft() {
        if (random.nextInt(8) != 0) {
            return;
        }
        for (int k = 0; k < 42 && goesOn(); k++) {
            tell("sees f p");
        }
    }
}
