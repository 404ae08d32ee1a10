import java.util.Arrays;
import java.util.NoSuchElementException;

/**
 * A desk for rules of access: it reads statements, checks a draft of them, puts it together to a policy,
 * and answers what types may do, make and come to know by it. The numbered promises are those of DOC.md.
 */
public final class PolicyDesk {
    public static final int NONE = -1;

    private static final int MOST_TYPES = 8;
    private static final int MOST_CLASSES = 3;
    private static final int MOST_PERMISSIONS = 6;
    private static final int MOST_ATTRIBUTES = 4;
    private static final int MOST_LETTERS = 4;
    private static final int MOST_STATEMENTS = 40;
    private static final int MOST_CHARACTERS = 72;
    private static final int MOST_ANSWERS = 8;
    private static final int MOST_BYTES = 420;
    private static final int HIGHEST_RANK = 7;
    private static final int BYTES_OF_A_LONG = 8;

    /** The name self, packed as Reader packs names. */
    private static final int SELF = ((19 * 32 + 5) * 32 + 12) * 32 + 6;

    /** The masks that a class has beside what is allowed, in the order of the image; a need's come first. */
    private static final int NOT_BELOW = 0;
    private static final int THE_SAME = 1;
    private static final int NOT_ABOVE = 2;
    private static final int SEEN_BY = 3;
    private static final int PUT_BY = 4;
    private static final int MASKS_OF_A_CLASS = 5;

    private static final Kind[] KINDS = Kind.values();

    private final Text text;
    private final Reader reader;
    private final Draft draft;
    private final Memory memory;
    private final ByteRow written;
    private final ByteRow fed;
    /** The policy in force (without types if there is none), and the one that the next is put together in. */
    private Policy policy;
    private Policy coming;
    private int errorAt;
    private int faultAt;

    public PolicyDesk(int size) {
        text = new Text();
        reader = new Reader(text);
        draft = new Draft();
        memory = new Memory(Math.max(1, Math.min(MOST_ANSWERS, size)));
        written = new ByteRow();
        fed = new ByteRow();
        policy = new Policy();
        coming = new Policy();
        errorAt = NONE;
        faultAt = NONE;
    }

    public boolean write(long w) {
        return text.append(w);
    }

    public int add() throws IllegalArgumentException, IllegalStateException {
        boolean isStatement = reader.parse(draft.spare());
        errorAt = isStatement ? NONE : reader.stoppedAt();
        text.clear();
        if (!isStatement) {
            throw new IllegalArgumentException("the text is no statement");
        }
        if (!draft.hasRoom()) {
            throw new IllegalStateException("the draft is full");
        }
        return draft.keepSpare();
    }

    public int position() {
        return errorAt;
    }

    public boolean cut(int n) {
        return draft.shorten(n);
    }

    public int accept() throws IllegalArgumentException, IllegalStateException {
        faultAt = draft.firstWrong();
        if (faultAt != NONE) {
            throw new IllegalArgumentException("the draft is wrong");
        }
        Composer.compose(draft, coming);
        faultAt = Composer.firstAgainst(draft, coming);
        if (faultAt != NONE) {
            throw new IllegalStateException("the draft is against itself");
        }
        return putInForce();
    }

    public int fault() {
        return faultAt;
    }

    public int may(int s, int t, int c) throws NoSuchElementException {
        if (!policy.has(s, t, c)) {
            throw new NoSuchElementException("no such type or class");
        }
        int question = cellOf(s, t, c);
        int known = memory.recall(question);
        if (known != NONE) {
            return known;
        }
        int answer = policy.permitted(s, t, c);
        memory.keep(question, answer);
        return answer;
    }

    public int made(int s, int t, int c) {
        // A cell holds 1 more than the type, and 0 for none.
        return policy.productAt(s, t, c) - 1;
    }

    public int flow(int a, int b) {
        return policy.hasType(a) && policy.hasType(b) ? policy.stepsBetween(a, b) : NONE;
    }

    public int count(int what) {
        switch (what) {
            case 0:
                return policy.types();
            case 1:
                return policy.classes();
            case 2:
                return memory.hits();
            case 3:
                return memory.misses();
            case 4:
                return memory.size();
            case 5:
                return draft.size();
            default:
                return 0;
        }
    }

    public int image() {
        if (policy.types() == 0) {
            return 0;
        }
        ImageCodec.encode(policy, written);
        return written.length();
    }

    public int imageAt(int k) {
        return written.byteAt(k);
    }

    public int feed(long w, int n) {
        if (n < 1 || n > BYTES_OF_A_LONG || n > fed.room()) {
            return NONE;
        }
        for (int k = 0; k < n; k++) {
            fed.push(byteOf(w, k));
        }
        return fed.length();
    }

    public int read() throws IllegalArgumentException {
        boolean wellFormed = ImageCodec.decode(fed, coming);
        fed.clear();
        if (!wellFormed) {
            throw new IllegalArgumentException("what was fed is no image");
        }
        return putInForce();
    }

    /** The two policies change places, so that none has to be made anew. */
    private int putInForce() {
        Policy before = policy;
        policy = coming;
        coming = before;
        memory.forget();
        return policy.types();
    }

    /** Byte k of w, 0 being the highest. */
    private static int byteOf(long w, int k) {
        return (int) (w >>> (56 - 8 * k)) & 255;
    }

    /** Where a row of a cell for each class and two types has that of s, t, c. */
    private static int cellOf(int s, int t, int c) {
        return (c * MOST_TYPES + s) * MOST_TYPES + t;
    }

    private static boolean hasBit(int set, int bit) {
        return (set >> bit & 1) != 0;
    }

    /** The kinds of statements: names, perhaps a mark, and at last a list of names. */
    private enum Kind {
        CLASS("class", 1, "", 1, MOST_PERMISSIONS),
        TYPE("type", 1, "", 0, MOST_ATTRIBUTES),
        ALLOW("allow", 3, "", 1, MOST_PERMISSIONS),
        NEVER("never", 3, "", 1, MOST_PERMISSIONS),
        MAKE("make", 4, "", 0, 0),
        RANK("rank", 1, "01234567", 0, 0),
        NEED("need", 1, ">=<", 1, MOST_PERMISSIONS),
        SEES("sees", 1, "", 1, MOST_PERMISSIONS),
        PUTS("puts", 1, "", 1, MOST_PERMISSIONS);

        private final String word;
        private final int names;
        private final String marks;
        private final int fewest;
        private final int most;

        Kind(String word, int names, String marks, int fewest, int most) {
            this.word = word;
            this.names = names;
            this.marks = marks;
            this.fewest = fewest;
            this.most = most;
        }
    }

    /** The characters that were written and not taken yet. */
    private static final class Text {
        private final int[] codes = new int[MOST_CHARACTERS];
        private int length = 0;

        boolean append(long w) {
            int more = 0;
            for (int k = 0; k < BYTES_OF_A_LONG; k++) {
                int code = byteOf(w, k);
                if (code != 0 && (code < 32 || code > 126)) {
                    return false;
                }
                more += code == 0 ? 0 : 1;
            }
            if (more > codes.length - length) {
                return false;
            }
            for (int k = 0; k < BYTES_OF_A_LONG; k++) {
                appendCode(byteOf(w, k));
            }
            return true;
        }

        private void appendCode(int code) {
            if (code != 0 && length < codes.length) {
                codes[length] = code;
                length++;
            }
        }

        /** NONE behind the end, which is no code that a statement could go on with. */
        int codeAt(int k) {
            return k >= 0 && k < length ? codes[k] : NONE;
        }

        int length() {
            return length;
        }

        void clear() {
            length = 0;
        }
    }

    /** Reads the text from the left and stops where no statement goes on as the text does: there is the error. */
    private static final class Reader {
        private final Text text;
        private int at = 0;

        Reader(Text text) {
            this.text = text;
        }

        int stoppedAt() {
            return at;
        }

        boolean parse(Statement into) {
            if (!keyword(into)) {
                return false;
            }
            Kind kind = into.kind();
            return names(into, kind.names) && mark(into, kind.marks) && list(into, kind.fewest, kind.most);
        }

        /** No keyword begins another, so the first that is there whole is the one. */
        private boolean keyword(Statement into) {
            at = 0;
            for (int k = 0; k < KINDS.length; k++) {
                int same = lettersShared(KINDS[k].word);
                if (same == KINDS[k].word.length()) {
                    at = same;
                    into.begin(KINDS[k]);
                    return true;
                }
                at = Math.max(at, same);
            }
            return false;
        }

        private int lettersShared(String word) {
            for (int k = 0; k < word.length(); k++) {
                if (text.codeAt(k) != word.charAt(k)) {
                    return k;
                }
            }
            return word.length();
        }

        private boolean names(Statement into, int howMany) {
            for (int k = 0; k < howMany; k++) {
                if (!blank() || !name(into)) {
                    return false;
                }
            }
            return true;
        }

        private boolean mark(Statement into, String marks) {
            if (marks.isEmpty()) {
                return true;
            }
            if (!blank() || atEnd()) {
                return false;
            }
            int which = marks.indexOf((char) text.codeAt(at));
            if (which < 0) {
                return false;
            }
            into.setMark(which);
            at++;
            return true;
        }

        private boolean list(Statement into, int fewest, int most) {
            for (int k = 0; k < most; k++) {
                if (k >= fewest && atEnd()) {
                    return true;
                }
                if (!blank() || !name(into)) {
                    return false;
                }
            }
            return atEnd();
        }

        private boolean blank() {
            if (text.codeAt(at) != ' ') {
                return false;
            }
            at++;
            return true;
        }

        private boolean name(Statement into) {
            int packed = 0;
            int letters = 0;
            while (letters < MOST_LETTERS && isLetter(text.codeAt(at))) {
                packed = packed * 32 + text.codeAt(at) - 'a' + 1;
                letters++;
                at++;
            }
            if (letters == 0) {
                return false;
            }
            into.push(packed);
            return true;
        }

        private boolean atEnd() {
            return at >= text.length();
        }

        private static boolean isLetter(int code) {
            return code >= 'a' && code <= 'z';
        }
    }

    /** A statement: its kind, its names in their order (each packed to a number above 0) and its mark. */
    private static final class Statement {
        private final int[] words = new int[3 + MOST_PERMISSIONS];
        private Kind kind = Kind.CLASS;
        private int size = 0;
        private int mark = 0;

        void begin(Kind newKind) {
            kind = newKind;
            size = 0;
            mark = 0;
        }

        void push(int name) {
            if (size < words.length) {
                words[size] = name;
                size++;
            }
        }

        void setMark(int newMark) {
            mark = newMark;
        }

        Kind kind() {
            return kind;
        }

        int mark() {
            return mark;
        }

        int size() {
            return size;
        }

        int word(int k) {
            return k >= 0 && k < size ? words[k] : 0;
        }

        /** Where the name stands, from the given word on; NONE if it does not. */
        int find(int name, int from) {
            for (int k = from; k < size; k++) {
                if (word(k) == name) {
                    return k;
                }
            }
            return NONE;
        }

        boolean allDifferFrom(int from) {
            for (int k = from; k < size; k++) {
                if (find(word(k), k + 1) != NONE) {
                    return false;
                }
            }
            return true;
        }

        boolean beginsAs(Statement other, int howMany) {
            if (kind != other.kind) {
                return false;
            }
            for (int k = 0; k < howMany; k++) {
                if (word(k) != other.word(k)) {
                    return false;
                }
            }
            return true;
        }
    }

    /** The row of statements, what is wrong in it, and what its names stand for. */
    private static final class Draft {
        /** One row more than the draft may have: a text is read into it before there must be room. */
        private final Statement[] rows = new Statement[MOST_STATEMENTS + 1];
        private int size = 0;

        Draft() {
            for (int i = 0; i < rows.length; i++) {
                rows[i] = new Statement();
            }
        }

        int size() {
            return size;
        }

        /** Statement i; the row behind the last, if there is none. */
        Statement row(int i) {
            return rows[i >= 0 && i < size ? i : size];
        }

        /** Where the next statement is read into: the row behind the last. */
        Statement spare() {
            return rows[size];
        }

        boolean hasRoom() {
            return size < MOST_STATEMENTS;
        }

        int keepSpare() {
            int number = size;
            size += hasRoom() ? 1 : 0;
            return number;
        }

        boolean shorten(int n) {
            if (n < 0 || n > size) {
                return false;
            }
            size = n;
            return true;
        }

        int firstWrong() {
            for (int i = 0; i < size; i++) {
                if (isWrong(i)) {
                    return i;
                }
            }
            return howMany(Kind.TYPE, size) == 0 || howMany(Kind.CLASS, size) == 0 ? size : NONE;
        }

        private boolean isWrong(int i) {
            Statement one = rows[i];
            switch (one.kind()) {
                case CLASS:
                    return repeats(i, 1) || !one.allDifferFrom(1) || howMany(Kind.CLASS, i) >= MOST_CLASSES;
                case TYPE:
                    return repeats(i, 1) || isAttribute(one.word(0)) || !one.allDifferFrom(1)
                            || howMany(Kind.TYPE, i) >= MOST_TYPES;
                case ALLOW:
                case NEVER:
                    return !isDoer(one.word(0)) || !(one.word(1) == SELF || isDoer(one.word(1)))
                            || !declaresPermissions(one, 2);
                case MAKE:
                    return repeats(i, 3) || !isType(one.word(0)) || !isType(one.word(1))
                            || numberOf(Kind.CLASS, one.word(2)) == NONE || !isType(one.word(3));
                case RANK:
                    return repeats(i, 1) || !isType(one.word(0));
                default:
                    return !declaresPermissions(one, 0);
            }
        }

        private boolean repeats(int i, int words) {
            for (int k = 0; k < i; k++) {
                if (rows[k].beginsAs(rows[i], words)) {
                    return true;
                }
            }
            return false;
        }

        private int howMany(Kind kind, int end) {
            int found = 0;
            for (int i = 0; i < end; i++) {
                found += rows[i].kind() == kind ? 1 : 0;
            }
            return found;
        }

        private boolean isType(int name) {
            return numberOf(Kind.TYPE, name) != NONE;
        }

        private boolean isAttribute(int name) {
            for (int i = 0; i < size; i++) {
                if (rows[i].kind() == Kind.TYPE && rows[i].find(name, 1) != NONE) {
                    return true;
                }
            }
            return false;
        }

        private boolean isDoer(int name) {
            return isType(name) || isAttribute(name);
        }

        /** Whether each name behind word c is a permission of some class that bears the name at word c. */
        private boolean declaresPermissions(Statement one, int c) {
            for (int k = c + 1; k < one.size(); k++) {
                if (!declaresPermission(one.word(c), one.word(k))) {
                    return false;
                }
            }
            return true;
        }

        private boolean declaresPermission(int ofClass, int permission) {
            for (int i = 0; i < size; i++) {
                Statement one = rows[i];
                if (one.kind() == Kind.CLASS && one.word(0) == ofClass && one.find(permission, 1) != NONE) {
                    return true;
                }
            }
            return false;
        }

        /** The number of the type or class that bears the name; NONE if there is none. */
        int numberOf(Kind kind, int name) {
            int number = 0;
            for (int i = 0; i < size; i++) {
                if (rows[i].kind() == kind) {
                    if (rows[i].word(0) == name) {
                        return number;
                    }
                    number++;
                }
            }
            return NONE;
        }

        /** The types, as bits, that bear the name or have it as an attribute. */
        int typesNamed(int name) {
            int set = 0;
            int number = 0;
            for (int i = 0; i < size; i++) {
                if (rows[i].kind() == Kind.TYPE) {
                    set |= rows[i].find(name, 0) != NONE ? 1 << number : 0;
                    number++;
                }
            }
            return set;
        }

        /** The mask of the names behind word c, permissions of the class that bears the name at word c. */
        int maskOf(Statement one, int c) {
            int mask = 0;
            for (int i = 0; i < size; i++) {
                if (rows[i].kind() == Kind.CLASS && rows[i].word(0) == one.word(c)) {
                    for (int k = c + 1; k < one.size(); k++) {
                        int stands = rows[i].find(one.word(k), 1);
                        mask |= stands == NONE ? 0 : 1 << (stands - 1);
                    }
                }
            }
            return mask;
        }
    }

    /** Puts a draft that is not wrong together to a policy. */
    private static final class Composer {
        static void compose(Draft draft, Policy policy) {
            policy.clear();
            // What a statement names may be declared behind it.
            for (int i = 0; i < draft.size(); i++) {
                declare(draft.row(i), policy);
            }
            for (int i = 0; i < draft.size(); i++) {
                apply(draft, draft.row(i), policy);
            }
        }

        private static void declare(Statement one, Policy policy) {
            if (one.kind() == Kind.TYPE) {
                policy.declareType();
            }
            if (one.kind() == Kind.CLASS) {
                policy.declareClass(one.size() - 1);
            }
        }

        private static void apply(Draft draft, Statement one, Policy policy) {
            switch (one.kind()) {
                case ALLOW:
                    allow(draft, one, policy);
                    break;
                case MAKE:
                    policy.setProduct(draft.numberOf(Kind.TYPE, one.word(0)), draft.numberOf(Kind.TYPE, one.word(1)),
                            draft.numberOf(Kind.CLASS, one.word(2)), draft.numberOf(Kind.TYPE, one.word(3)) + 1);
                    break;
                case RANK:
                    policy.setRank(draft.numberOf(Kind.TYPE, one.word(0)), one.mark());
                    break;
                case NEED:
                    widen(draft, one, policy, one.mark());
                    break;
                case SEES:
                    widen(draft, one, policy, SEEN_BY);
                    break;
                case PUTS:
                    widen(draft, one, policy, PUT_BY);
                    break;
                default:
                    break;
            }
        }

        private static void widen(Draft draft, Statement one, Policy policy, int which) {
            policy.addToMask(draft.numberOf(Kind.CLASS, one.word(0)), which, draft.maskOf(one, 0));
        }

        private static void allow(Draft draft, Statement one, Policy policy) {
            int doers = draft.typesNamed(one.word(0));
            int named = draft.typesNamed(one.word(1));
            int c = draft.numberOf(Kind.CLASS, one.word(2));
            int mask = draft.maskOf(one, 2);
            for (int s = 0; s < policy.types(); s++) {
                if (hasBit(doers, s)) {
                    policy.addAllowed(s, othersFor(one, s, named), c, mask);
                }
            }
        }

        /** The number of the first never that names what is allowed; NONE if there is none. */
        static int firstAgainst(Draft draft, Policy policy) {
            for (int i = 0; i < draft.size(); i++) {
                if (draft.row(i).kind() == Kind.NEVER && isAgainst(draft, draft.row(i), policy)) {
                    return i;
                }
            }
            return NONE;
        }

        private static boolean isAgainst(Draft draft, Statement one, Policy policy) {
            int doers = draft.typesNamed(one.word(0));
            int named = draft.typesNamed(one.word(1));
            int c = draft.numberOf(Kind.CLASS, one.word(2));
            int mask = draft.maskOf(one, 2);
            for (int s = 0; s < policy.types(); s++) {
                if (hasBit(doers, s) && policy.allowsSome(s, othersFor(one, s, named), c, mask)) {
                    return true;
                }
            }
            return false;
        }

        /** Self stands for the type that does it, even if some type or attribute bears that name. */
        private static int othersFor(Statement one, int s, int named) {
            return one.word(1) == SELF ? 1 << s : named;
        }
    }

    /** Types and classes by their numbers, with all that is told of them; without types it is no policy. */
    private static final class Policy {
        private final int[] permissions = new int[MOST_CLASSES];
        private final int[] ranks = new int[MOST_TYPES];
        private final int[] allowed = new int[MOST_CLASSES * MOST_TYPES * MOST_TYPES];
        private final int[] products = new int[MOST_CLASSES * MOST_TYPES * MOST_TYPES];
        private final int[] masks = new int[MOST_CLASSES * MASKS_OF_A_CLASS];
        private int types = 0;
        private int classes = 0;

        void clear() {
            types = 0;
            classes = 0;
            Arrays.fill(permissions, 0);
            Arrays.fill(ranks, 0);
            Arrays.fill(allowed, 0);
            Arrays.fill(products, 0);
            Arrays.fill(masks, 0);
        }

        void declareType() {
            if (types < MOST_TYPES) {
                types++;
            }
        }

        void declareClass(int howManyPermissions) {
            if (classes < MOST_CLASSES) {
                permissions[classes] = howManyPermissions;
                classes++;
            }
        }

        int types() {
            return types;
        }

        int classes() {
            return classes;
        }

        boolean hasType(int t) {
            return t >= 0 && t < types;
        }

        boolean has(int s, int t, int c) {
            return s >= 0 && s < types && t >= 0 && t < types && c >= 0 && c < classes;
        }

        int permissionsOf(int c) {
            return c >= 0 && c < classes ? permissions[c] : 0;
        }

        int rankOf(int t) {
            return hasType(t) ? ranks[t] : 0;
        }

        void setRank(int t, int rank) {
            if (hasType(t)) {
                ranks[t] = rank;
            }
        }

        int allowedAt(int s, int t, int c) {
            return has(s, t, c) ? allowed[cellOf(s, t, c)] : 0;
        }

        void setAllowed(int s, int t, int c, int mask) {
            if (has(s, t, c)) {
                allowed[cellOf(s, t, c)] = mask;
            }
        }

        void addAllowed(int s, int others, int c, int mask) {
            for (int t = 0; t < types; t++) {
                if (hasBit(others, t) && has(s, t, c)) {
                    allowed[cellOf(s, t, c)] |= mask;
                }
            }
        }

        boolean allowsSome(int s, int others, int c, int mask) {
            for (int t = 0; t < types; t++) {
                if (hasBit(others, t) && (allowedAt(s, t, c) & mask) != 0) {
                    return true;
                }
            }
            return false;
        }

        /** 1 more than the type that is made; 0 for none. */
        int productAt(int s, int t, int c) {
            return has(s, t, c) ? products[cellOf(s, t, c)] : 0;
        }

        void setProduct(int s, int t, int c, int product) {
            if (has(s, t, c)) {
                products[cellOf(s, t, c)] = product;
            }
        }

        int maskAt(int c, int which) {
            return hasMask(c, which) ? masks[c * MASKS_OF_A_CLASS + which] : 0;
        }

        void addToMask(int c, int which, int more) {
            if (hasMask(c, which)) {
                masks[c * MASKS_OF_A_CLASS + which] |= more;
            }
        }

        private boolean hasMask(int c, int which) {
            return c >= 0 && c < classes && which >= 0 && which < MASKS_OF_A_CLASS;
        }

        /** What is allowed, without what some need forbids. */
        int permitted(int s, int t, int c) {
            int forbidden = 0;
            if (rankOf(s) < rankOf(t)) {
                forbidden |= maskAt(c, NOT_BELOW);
            }
            if (rankOf(s) != rankOf(t)) {
                forbidden |= maskAt(c, THE_SAME);
            }
            if (rankOf(s) > rankOf(t)) {
                forbidden |= maskAt(c, NOT_ABOVE);
            }
            return allowedAt(s, t, c) & ~forbidden;
        }

        /** The shortest way never comes to a type twice, so it has fewer steps than there are types. */
        int stepsBetween(int a, int b) {
            int reached = 1 << a;
            for (int steps = 0; steps < types; steps++) {
                if (hasBit(reached, b)) {
                    return steps;
                }
                reached = spread(reached);
            }
            return NONE;
        }

        private int spread(int reached) {
            int wider = reached;
            for (int from = 0; from < types; from++) {
                for (int to = 0; to < types; to++) {
                    if (hasBit(reached, from) && !hasBit(wider, to) && flowsInOneStep(from, to)) {
                        wider |= 1 << to;
                    }
                }
            }
            return wider;
        }

        private boolean flowsInOneStep(int from, int to) {
            for (int c = 0; c < classes; c++) {
                if ((permitted(to, from, c) & maskAt(c, SEEN_BY)) != 0
                        || (permitted(from, to, c) & maskAt(c, PUT_BY)) != 0) {
                    return true;
                }
            }
            return false;
        }
    }

    /** A policy as bytes, and back. */
    private static final class ImageCodec {
        static void encode(Policy policy, ByteRow into) {
            into.clear();
            into.push(policy.types());
            into.push(policy.classes());
            for (int c = 0; c < policy.classes(); c++) {
                into.push(policy.permissionsOf(c));
            }
            for (int t = 0; t < policy.types(); t++) {
                into.push(policy.rankOf(t));
            }
            for (int c = 0; c < policy.classes(); c++) {
                encodeClass(policy, c, into);
            }
        }

        private static void encodeClass(Policy policy, int c, ByteRow into) {
            for (int s = 0; s < policy.types(); s++) {
                for (int t = 0; t < policy.types(); t++) {
                    into.push(policy.allowedAt(s, t, c));
                }
            }
            for (int s = 0; s < policy.types(); s++) {
                for (int t = 0; t < policy.types(); t++) {
                    into.push(policy.productAt(s, t, c));
                }
            }
            for (int which = 0; which < MASKS_OF_A_CLASS; which++) {
                into.push(policy.maskAt(c, which));
            }
        }

        /** Whether the bytes are well formed; if not, what stands in the policy then means nothing. */
        static boolean decode(ByteRow from, Policy policy) {
            policy.clear();
            from.rewind();
            int types = from.take(1, MOST_TYPES);
            int classes = from.take(1, MOST_CLASSES);
            for (int c = 0; c < classes; c++) {
                policy.declareClass(from.take(1, MOST_PERMISSIONS));
            }
            for (int t = 0; t < types; t++) {
                policy.declareType();
                policy.setRank(t, from.take(0, HIGHEST_RANK));
            }
            for (int c = 0; c < classes; c++) {
                decodeClass(from, c, policy);
            }
            return from.isTakenWhole();
        }

        private static void decodeClass(ByteRow from, int c, Policy policy) {
            int fullMask = (1 << policy.permissionsOf(c)) - 1;
            for (int s = 0; s < policy.types(); s++) {
                for (int t = 0; t < policy.types(); t++) {
                    policy.setAllowed(s, t, c, from.take(0, fullMask));
                }
            }
            for (int s = 0; s < policy.types(); s++) {
                for (int t = 0; t < policy.types(); t++) {
                    policy.setProduct(s, t, c, from.take(0, policy.types()));
                }
            }
            for (int which = 0; which < MASKS_OF_A_CLASS; which++) {
                policy.addToMask(c, which, from.take(0, fullMask));
            }
        }
    }

    /** A row of bytes that grows at its end and is taken from its beginning. */
    private static final class ByteRow {
        private final int[] bytes = new int[MOST_BYTES];
        private int length = 0;
        private int taken = 0;
        private boolean broken = false;

        int length() {
            return length;
        }

        int room() {
            return bytes.length - length;
        }

        void clear() {
            length = 0;
        }

        void push(int value) {
            if (length < bytes.length) {
                bytes[length] = value;
                length++;
            }
        }

        int byteAt(int k) {
            return k >= 0 && k < length ? bytes[k] : NONE;
        }

        void rewind() {
            taken = 0;
            broken = false;
        }

        /** The next byte; the lowest that may be there, if it is missing or not in bounds: then the row is broken. */
        int take(int lowest, int highest) {
            int value = byteAt(taken);
            taken++;
            if (value < lowest || value > highest) {
                broken = true;
                return lowest;
            }
            return value;
        }

        boolean isTakenWhole() {
            return !broken && taken == length;
        }
    }

    /** The latest answers, from the one that was asked for longest ago to the one asked for latest. */
    private static final class Memory {
        private final int[] questions;
        private final int[] answers;
        private int size = 0;
        private int hits = 0;
        private int misses = 0;

        Memory(int most) {
            questions = new int[most];
            answers = new int[most];
        }

        int size() {
            return size;
        }

        int hits() {
            return hits;
        }

        int misses() {
            return misses;
        }

        void forget() {
            size = 0;
        }

        /** The answer, if it is there; NONE, which is no mask, otherwise. */
        int recall(int question) {
            for (int k = 0; k < size; k++) {
                if (questions[k] == question) {
                    int answer = answers[k];
                    hits++;
                    drop(k);
                    append(question, answer);
                    return answer;
                }
            }
            return NONE;
        }

        void keep(int question, int answer) {
            misses++;
            if (size == questions.length) {
                drop(0);
            }
            append(question, answer);
        }

        private void drop(int which) {
            for (int k = which; k < size - 1; k++) {
                questions[k] = questions[k + 1];
                answers[k] = answers[k + 1];
            }
            size--;
        }

        private void append(int question, int answer) {
            if (size < questions.length) {
                questions[size] = question;
                answers[size] = answer;
                size++;
            }
        }
    }
}
