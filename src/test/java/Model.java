import java.util.ArrayList;
import java.util.Arrays;
import java.util.HashMap;
import java.util.HashSet;
import java.util.LinkedHashMap;
import java.util.LinkedHashSet;
import java.util.List;
import java.util.Map;
import java.util.Set;
import java.util.TreeSet;
import java.util.regex.Matcher;
import java.util.regex.Pattern;

/**
 * A second program for the document, with names where PolicyDesk has numbers and with the library's help, so that
 * the two hardly err alike. A call answers a text: the answer, or the simple name of what is thrown.
 */
final class Model {
    private static final Pattern STATEMENT = Pattern.compile((
            "class N( N){1,6}|type N( N){0,4}|allow N N N( N){1,6}|never N N N( N){1,6}|make N N N N|rank N [0-7]"
            + "|need N [>=<]( N){1,6}|sees N( N){1,6}|puts N( N){1,6}").replace("N", "[a-z]{1,4}"));

    private final int size;
    private String text = "";
    private final List<List<String>> draft = new ArrayList<>();
    private int errorAt = -1;
    private int faultAt = -1;
    private Policy policy = null;
    private final LinkedHashMap<List<Integer>, Integer> memory = new LinkedHashMap<>(16, 0.75f, true);
    private int hits = 0;
    private int misses = 0;
    private List<Integer> written = new ArrayList<>();
    private List<Integer> fed = new ArrayList<>();

    /** What is told of types and classes; sets of permissions by their numbers. */
    private static final class Policy {
        int[] ranks;
        int[] permissions;
        final Map<List<Integer>, Set<Integer>> allowed = new HashMap<>();
        final Map<List<Integer>, Integer> made = new HashMap<>();
        final Map<String, Set<Integer>> byClass = new HashMap<>();

        Set<Integer> allowed(int s, int t, int c) {
            return allowed.computeIfAbsent(List.of(s, t, c), key -> new TreeSet<>());
        }

        Set<Integer> byClass(int c, String what) {
            return byClass.computeIfAbsent(c + what, key -> new TreeSet<>());
        }

        Set<Integer> permitted(int s, int t, int c) {
            Set<Integer> left = new TreeSet<>(allowed(s, t, c));
            left.removeIf(p -> byClass(c, ">").contains(p) && !(ranks[s] >= ranks[t])
                    || byClass(c, "=").contains(p) && !(ranks[s] == ranks[t])
                    || byClass(c, "<").contains(p) && !(ranks[s] <= ranks[t]));
            return left;
        }
    }

    Model(int size) {
        this.size = Math.min(8, Math.max(1, size));
    }

    String write(long w) {
        StringBuilder more = new StringBuilder();
        for (byte b : java.nio.ByteBuffer.allocate(8).putLong(w).array()) {
            if (b != 0) {
                if (b < 32 || b > 126) {
                    return "false";
                }
                more.append((char) b);
            }
        }
        if (text.length() + more.length() > 72) {
            return "false";
        }
        text += more;
        return "true";
    }

    String add() {
        String taken = text;
        text = "";
        errorAt = -1;
        if (!STATEMENT.matcher(taken).matches()) {
            errorAt = errorOf(taken);
            return Bench.BAD_ARGUMENT;
        }
        if (draft.size() == 40) {
            return Bench.BAD_STATE;
        }
        draft.add(Arrays.asList(taken.split(" ")));
        return String.valueOf(draft.size() - 1);
    }

    static int errorOf(String text) {
        for (int k = 1; k <= text.length(); k++) {
            Matcher matcher = STATEMENT.matcher(text.substring(0, k));
            if (!matcher.matches() && !matcher.hitEnd()) {
                return k - 1;
            }
        }
        return text.length();
    }

    int position() {
        return errorAt;
    }

    boolean cut(int n) {
        if (n < 0 || n > draft.size()) {
            return false;
        }
        draft.subList(n, draft.size()).clear();
        return true;
    }

    int fault() {
        return faultAt;
    }

    String accept() {
        faultAt = firstWrong();
        if (faultAt != -1) {
            return Bench.BAD_ARGUMENT;
        }
        Policy next = compose();
        if (faultAt != -1) {
            return Bench.BAD_STATE;
        }
        return take(next);
    }

    private String take(Policy next) {
        policy = next;
        memory.clear();
        return String.valueOf(policy.ranks.length);
    }

    private int firstWrong() {
        Set<String> types = new HashSet<>();
        Set<String> attributes = new HashSet<>();
        Set<String> classes = new HashSet<>();
        Set<String> permissions = new HashSet<>();
        for (List<String> one : draft) {
            if (one.get(0).equals("type")) {
                types.add(one.get(1));
                attributes.addAll(one.subList(2, one.size()));
            }
            if (one.get(0).equals("class")) {
                classes.add(one.get(1));
                one.subList(2, one.size()).forEach(p -> permissions.add(one.get(1) + " " + p));
            }
        }
        Set<String> before = new HashSet<>();
        int typesBefore = 0;
        int classesBefore = 0;
        for (int i = 0; i < draft.size(); i++) {
            List<String> one = draft.get(i);
            boolean wrong = false;
            switch (one.get(0)) {
                case "class" -> wrong = !before.add("class " + one.get(1)) || repeats(one) || ++classesBefore > 3;
                case "type" -> wrong = !before.add("type " + one.get(1)) || attributes.contains(one.get(1)) || repeats(one)
                        || ++typesBefore > 8;
                case "make" -> wrong = !before.add(String.join(" ", one.subList(0, 4))) || !types.contains(one.get(1))
                        || !types.contains(one.get(2)) || !classes.contains(one.get(3)) || !types.contains(one.get(4));
                case "rank" -> wrong = !before.add("rank " + one.get(1)) || !types.contains(one.get(1));
                case "allow", "never" -> wrong = !(types.contains(one.get(1)) || attributes.contains(one.get(1)))
                        || !(one.get(2).equals("self") || types.contains(one.get(2)) || attributes.contains(one.get(2)))
                        || unknown(one, 3, 4, permissions);
                case "need" -> wrong = unknown(one, 1, 3, permissions);
                default -> wrong = unknown(one, 1, 2, permissions);
            }
            if (wrong) {
                return i;
            }
        }
        return types.isEmpty() || classes.isEmpty() ? draft.size() : -1;
    }

    private static boolean repeats(List<String> one) {
        return new HashSet<>(one.subList(2, one.size())).size() < one.size() - 2;
    }

    private static boolean unknown(List<String> one, int c, int from, Set<String> permissions) {
        return one.subList(from, one.size()).stream().anyMatch(p -> !permissions.contains(one.get(c) + " " + p));
    }

    private Policy compose() {
        List<List<String>> types = draft.stream().filter(one -> one.get(0).equals("type")).toList();
        List<List<String>> classes = draft.stream().filter(one -> one.get(0).equals("class")).toList();
        List<String> typeNames = types.stream().map(one -> one.get(1)).toList();
        List<String> classNames = classes.stream().map(one -> one.get(1)).toList();
        Policy next = new Policy();
        next.ranks = new int[types.size()];
        next.permissions = classes.stream().mapToInt(one -> one.size() - 2).toArray();
        Set<String> given = new HashSet<>();
        for (List<String> one : draft) {
            switch (one.get(0)) {
                case "allow" -> {
                    for (List<Integer> pair : pairs(one, types)) {
                        for (int p : numbers(one, 3, 4, classes)) {
                            next.allowed(pair.get(0), pair.get(1), classNames.indexOf(one.get(3))).add(p);
                            given.add(pair + one.get(3) + p);
                        }
                    }
                }
                case "make" -> next.made.put(List.of(typeNames.indexOf(one.get(1)), typeNames.indexOf(one.get(2)),
                        classNames.indexOf(one.get(3))), typeNames.indexOf(one.get(4)));
                case "rank" -> next.ranks[typeNames.indexOf(one.get(1))] = Integer.parseInt(one.get(2));
                case "need" -> next.byClass(classNames.indexOf(one.get(1)), one.get(2)).addAll(numbers(one, 1, 3, classes));
                case "sees", "puts" ->
                    next.byClass(classNames.indexOf(one.get(1)), one.get(0)).addAll(numbers(one, 1, 2, classes));
                default -> { }
            }
        }
        for (int i = draft.size() - 1; i >= 0; i--) {
            List<String> one = draft.get(i);
            if (one.get(0).equals("never") && pairs(one, types).stream().anyMatch(pair ->
                    numbers(one, 3, 4, classes).stream().anyMatch(p -> given.contains(pair + one.get(3) + p)))) {
                faultAt = i;
            }
        }
        return next;
    }

    /** The pairs of types that an allow or a never is about. */
    private static Set<List<Integer>> pairs(List<String> one, List<List<String>> types) {
        Set<List<Integer>> pairs = new LinkedHashSet<>();
        for (int s = 0; s < types.size(); s++) {
            for (int t = 0; t < types.size(); t++) {
                boolean other = one.get(2).equals("self") ? s == t : bears(types.get(t), one.get(2));
                if (other && bears(types.get(s), one.get(1))) {
                    pairs.add(List.of(s, t));
                }
            }
        }
        return pairs;
    }

    private static boolean bears(List<String> type, String name) {
        return type.subList(1, type.size()).contains(name);
    }

    private static Set<Integer> numbers(List<String> one, int c, int from, List<List<String>> classes) {
        List<String> own = classes.stream().filter(it -> it.get(1).equals(one.get(c))).findFirst().orElseThrow();
        Set<Integer> numbers = new TreeSet<>();
        one.subList(from, one.size()).forEach(p -> numbers.add(own.subList(2, own.size()).indexOf(p)));
        return numbers;
    }

    private boolean isType(int t) {
        return policy != null && t >= 0 && t < policy.ranks.length;
    }

    private boolean isClass(int c) {
        return policy != null && c >= 0 && c < policy.permissions.length;
    }

    private static int mask(Set<Integer> permissions) {
        return permissions.stream().mapToInt(p -> 1 << p).sum();
    }

    String may(int s, int t, int c) {
        if (!isType(s) || !isType(t) || !isClass(c)) {
            return Bench.NO_ELEMENT;
        }
        List<Integer> question = List.of(s, t, c);
        if (memory.containsKey(question)) {
            hits++;
            return String.valueOf(memory.get(question));
        }
        misses++;
        memory.put(question, mask(policy.permitted(s, t, c)));
        if (memory.size() > size) {
            memory.remove(memory.keySet().iterator().next());
        }
        return String.valueOf(mask(policy.permitted(s, t, c)));
    }

    int made(int s, int t, int c) {
        return policy == null ? -1 : policy.made.getOrDefault(List.of(s, t, c), -1);
    }

    int flow(int a, int b) {
        if (!isType(a) || !isType(b)) {
            return -1;
        }
        int types = policy.ranks.length;
        int far = 1000;
        int[][] steps = new int[types][types];
        for (int x = 0; x < types; x++) {
            for (int y = 0; y < types; y++) {
                steps[x][y] = x == y ? 0 : flows(x, y) ? 1 : far;
            }
        }
        for (int k = 0; k < types; k++) {
            for (int x = 0; x < types; x++) {
                for (int y = 0; y < types; y++) {
                    steps[x][y] = Math.min(steps[x][y], steps[x][k] + steps[k][y]);
                }
            }
        }
        return steps[a][b] >= far ? -1 : steps[a][b];
    }

    private boolean flows(int from, int to) {
        for (int c = 0; c < policy.permissions.length; c++) {
            Set<Integer> seen = policy.permitted(to, from, c);
            seen.retainAll(policy.byClass(c, "sees"));
            Set<Integer> put = policy.permitted(from, to, c);
            put.retainAll(policy.byClass(c, "puts"));
            if (!seen.isEmpty() || !put.isEmpty()) {
                return true;
            }
        }
        return false;
    }

    int count(int what) {
        int[] counts = {policy == null ? 0 : policy.ranks.length, policy == null ? 0 : policy.permissions.length, hits, misses,
            memory.size(), draft.size()};
        return what >= 0 && what < counts.length ? counts[what] : 0;
    }

    int image() {
        if (policy == null) {
            return 0;
        }
        written = bytes();
        return written.size();
    }

    /** The image that image() would write. */
    List<Integer> bytes() {
        List<Integer> row = new ArrayList<>();
        if (policy == null) {
            return row;
        }
        int types = policy.ranks.length;
        row.add(types);
        row.add(policy.permissions.length);
        Arrays.stream(policy.permissions).forEach(row::add);
        Arrays.stream(policy.ranks).forEach(row::add);
        for (int c = 0; c < policy.permissions.length; c++) {
            for (int k = 0; k < types * types; k++) {
                row.add(mask(policy.allowed(k / types, k % types, c)));
            }
            for (int k = 0; k < types * types; k++) {
                row.add(made(k / types, k % types, c) + 1);
            }
            for (String what : List.of(">", "=", "<", "sees", "puts")) {
                row.add(mask(policy.byClass(c, what)));
            }
        }
        return row;
    }

    int imageAt(int k) {
        return k >= 0 && k < written.size() ? written.get(k) : -1;
    }

    int feed(long w, int n) {
        if (n < 1 || n > 8 || fed.size() + n > 420) {
            return -1;
        }
        for (int k = 0; k < n; k++) {
            fed.add(java.nio.ByteBuffer.allocate(8).putLong(w).get(k) & 0xff);
        }
        return fed.size();
    }

    String read() {
        List<Integer> row = fed;
        fed = new ArrayList<>();
        Policy next = new Policy();
        if (row.size() < 2 || row.get(0) < 1 || row.get(0) > 8 || row.get(1) < 1 || row.get(1) > 3) {
            return Bench.BAD_ARGUMENT;
        }
        int types = row.get(0);
        int classes = row.get(1);
        if (row.size() != 2 + classes + types + classes * (2 * types * types + 5)) {
            return Bench.BAD_ARGUMENT;
        }
        next.permissions = row.subList(2, 2 + classes).stream().mapToInt(p -> p).toArray();
        next.ranks = row.subList(2 + classes, 2 + classes + types).stream().mapToInt(r -> r).toArray();
        if (Arrays.stream(next.permissions).anyMatch(p -> p < 1 || p > 6) || Arrays.stream(next.ranks).anyMatch(r -> r > 7)) {
            return Bench.BAD_ARGUMENT;
        }
        int at = 2 + classes + types;
        for (int c = 0; c < classes; c++) {
            List<Integer> own = row.subList(at, at + 2 * types * types + 5);
            if (!readClass(next, c, own)) {
                return Bench.BAD_ARGUMENT;
            }
            at += own.size();
        }
        return take(next);
    }

    private static boolean readClass(Policy next, int c, List<Integer> own) {
        int types = next.ranks.length;
        boolean right = true;
        for (int k = 0; k < types * types; k++) {
            right &= readMask(own.get(k), next.permissions[c], next.allowed(k / types, k % types, c));
            int made = own.get(types * types + k);
            right &= made <= types;
            if (made > 0) {
                next.made.put(List.of(k / types, k % types, c), made - 1);
            }
        }
        String[] masks = {">", "=", "<", "sees", "puts"};
        for (int k = 0; k < 5; k++) {
            right &= readMask(own.get(2 * types * types + k), next.permissions[c], next.byClass(c, masks[k]));
        }
        return right;
    }

    private static boolean readMask(int mask, int permissions, Set<Integer> into) {
        for (int p = 0; p < 8; p++) {
            if ((mask & 1 << p) != 0) {
                into.add(p);
            }
        }
        return into.stream().allMatch(p -> p < permissions);
    }
}
