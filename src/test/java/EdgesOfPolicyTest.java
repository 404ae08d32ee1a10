/** Terms: the policy, the memory and flows; a method for each sentence that names a boundary. */
public final class EdgesOfPolicyTest {
    private static final String[] EIGHT = {
        "type a x", "type b x", "type c x", "type d x", "type e x", "type f x", "type g x", "type h x"
    };

    public static void main(String[] args) {
        fewest();
        most();
        numberedAsDeclared();
        permissionsNamedAsTheClass();
        masks();
        maybeMade();
        ranksNotTold();
        notBelow();
        theSame();
        notAbove();
        someNeed();
        needsOfOthers();
        atMostSize();
        hitOrMiss();
        forSomeSTC();
        longestAgo();
        noPlaceTakenWithRoom();
        acceptEmpties();
        readEmpties();
        refusedEmptiesNot();
        sees();
        puts();
        ofSomeClass();
        flowsByWhatTheyMay();
        flowsWithoutMemory();
        Bench.finish();
    }

    private static Bench accepted(int size, String[] base, String... more) {
        Bench bench = new Bench(size);
        bench.addAll(base);
        bench.addAll(more);
        Bench.due("accept", bench.accept(), bench.desk.count(0));
        Bench.due("fault", bench.desk.fault(), PolicyDesk.NONE);
        return bench;
    }

    private static void fewest() {
        Bench.sentence("A POLICY has types (1 ..), classes (1 ..)");
        Bench bench = accepted(1, new String[] {"class f p", "type a"}, "allow a a f p");
        Bench.due("types", bench.desk.count(0), 1);
        Bench.due("classes", bench.desk.count(1), 1);
        Bench.due("may(0, 0, 0)", bench.may(0, 0, 0), 1);
        Bench.due("may(1, 0, 0)", bench.may(1, 0, 0), Bench.NO_ELEMENT);
        Bench.due("may(0, 1, 0)", bench.may(0, 1, 0), Bench.NO_ELEMENT);
        Bench.due("may(0, 0, 1)", bench.may(0, 0, 1), Bench.NO_ELEMENT);
    }

    private static void most() {
        Bench.sentence("A POLICY has types (.. 8), classes (.. 3)");
        Bench bench = accepted(1, EIGHT, "class f p q r s t u", "class g p q r s t u", "class h p q r s t u",
                "allow h h h u", "allow h a f p", "allow a h g q");
        Bench.due("types", bench.desk.count(0), 8);
        Bench.due("classes", bench.desk.count(1), 3);
        for (int k = 0; k < 192; k++) {
            int want = k == 191 ? 32 : k == 7 * 8 ? 1 : k == 64 + 7 ? 2 : 0;
            Bench.due("may of cell " + k, bench.may(k / 8 % 8, k % 8, k / 64), want);
        }
        Bench.due("may(8, 7, 2)", bench.may(8, 7, 2), Bench.NO_ELEMENT);
        Bench.due("may(7, 8, 2)", bench.may(7, 8, 2), Bench.NO_ELEMENT);
        Bench.due("may(7, 7, 3)", bench.may(7, 7, 3), Bench.NO_ELEMENT);
    }

    private static void numberedAsDeclared() {
        Bench.sentence("numbered as they were declared, for each class its permissions, numbered likewise");
        Bench bench = accepted(1, new String[] {"type z", "class z b a", "sees z a", "type a", "class a c d b", "type m"},
                "allow z a z b", "allow a m a b", "allow m z z a");
        Bench.due("may of z to a of class z", bench.may(0, 1, 0), 1);
        Bench.due("may of a to m of class a", bench.may(1, 2, 1), 4);
        Bench.due("may of m to z of class z", bench.may(2, 0, 0), 2);
    }

    private static void permissionsNamedAsTheClass() {
        Bench.sentence("for each class its permissions: one that bears the name of its class is one of them");
        Bench bench = accepted(1, new String[] {"class f p f", "type a", "type b"}, "allow a b f p", "allow b a f f", "sees f p");
        Bench.due("may of a to b", bench.may(0, 1, 0), 1);
        Bench.due("may of b to a", bench.may(1, 0, 0), 2);
        bench.desk.image();
        Bench.due("mask of sees", bench.desk.imageAt(3 + 2 + 8 + 3), 1);
    }

    private static void masks() {
        Bench.sentence("for types s, t and class c a MASK of what is allowed (bit p for permission p)");
        String[] base = {"class f p q r s t u", "type a", "type b"};
        String names = "pqrstu";
        for (int p = 0; p < 6; p++) {
            Bench bench = accepted(1, base, "allow a b f " + names.charAt(p));
            Bench.due("mask of permission " + p, bench.may(0, 1, 0), 1 << p);
            Bench.due("mask the other way", bench.may(1, 0, 0), 0);
        }
        Bench all = accepted(1, base, "allow a b f u t s r q p");
        Bench.due("mask of all", all.may(0, 1, 0), 63);
        Bench same = accepted(1, base, "allow a b f u u u u u u", "allow a b f u", "allow a b f p");
        Bench.due("mask of two, told often", same.may(0, 1, 0), 33);
    }

    private static void maybeMade() {
        Bench.sentence("for s, t, c maybe a type that is made");
        Bench bench = accepted(1, EIGHT, "class f p", "class g p", "make a a f a", "make h h g h", "make a h f h", "make h a g a");
        int none = PolicyDesk.NONE;
        for (int k = 0; k < 128; k++) {
            int want = k == 0 ? 0 : k == 127 ? 7 : k == 7 ? 7 : k == 64 + 56 ? 0 : none;
            Bench.due("made of cell " + k, bench.desk.made(k / 8 % 8, k % 8, k / 64), want);
        }
    }

    private static void ranksNotTold() {
        Bench.sentence("ranks (0 if not told)");
        Bench bench = accepted(1, new String[] {"class f up same down", "type a x", "type b x", "type c x"}, "rank b 0", "rank c 1",
                "allow x x f up same down", "need f > up", "need f = same", "need f < down");
        Bench.due("untold to 0", bench.may(0, 1, 0), 7);
        Bench.due("0 to untold", bench.may(1, 0, 0), 7);
        Bench.due("untold to 1", bench.may(0, 2, 0), 4);
        Bench.due("1 to untold", bench.may(2, 0, 0), 1);
        bench.desk.image();
        Bench.due("rank in the image", bench.desk.imageAt(3), 0);
    }

    /** What remains of one permission with a need, for types of all ranks. */
    private static int permitted(String mark, int s, int t) {
        Bench bench = accepted(1, new String[] {"class f p q", "type a", "type b"}, "rank a " + s, "rank b " + t, "allow a b f p q",
                "need f " + mark + " p");
        return bench.desk.may(0, 1, 0);
    }

    private static void notBelow() {
        Bench.sentence("> : the rank of the type that does it must not be below that of the other one");
        for (int k = 0; k < 64; k++) {
            Bench.due("ranks " + k / 8 + " > " + k % 8, permitted(">", k / 8, k % 8), k / 8 < k % 8 ? 2 : 3);
        }
    }

    private static void theSame() {
        Bench.sentence("= : the rank of the type that does it must be the same as that of the other one");
        for (int k = 0; k < 64; k++) {
            Bench.due("ranks " + k / 8 + " = " + k % 8, permitted("=", k / 8, k % 8), k / 8 != k % 8 ? 2 : 3);
        }
    }

    private static void notAbove() {
        Bench.sentence("< : the rank of the type that does it must not be above that of the other one");
        for (int k = 0; k < 64; k++) {
            Bench.due("ranks " + k / 8 + " < " + k % 8, permitted("<", k / 8, k % 8), k / 8 > k % 8 ? 2 : 3);
        }
    }

    private static void someNeed() {
        Bench.sentence("What s MAY do to t of class c is what is allowed, without what some need forbids");
        Bench bench = accepted(8, new String[] {"class f p q r s t u", "type a x", "type b x", "rank b 1"},
                "allow x x f p q r s t", "need f > p q", "need f < q r", "need f = s", "need f < q", "need f > u");
        // to b: > forbids p, q; = forbids s; to a: < forbids q, r; u is not allowed, so no need gives it
        Bench.due("may of a to b", bench.may(0, 1, 0), 4 + 16);
        Bench.due("may of b to a", bench.may(1, 0, 0), 1 + 16);
        Bench.due("may of a to a", bench.may(0, 0, 0), 31);
        Bench.due("may of b to b", bench.may(1, 1, 0), 31);
        Bench all = accepted(8, new String[] {"class f p q r s t u", "type a x", "type b x", "rank b 1"},
                "allow x x f p q r s t u", "need f > p q r s t u", "need f < p q r s t u");
        Bench.due("nothing is left to b", all.may(0, 1, 0), 0);
        Bench.due("nothing is left to a", all.may(1, 0, 0), 0);
        Bench.due("all is left to itself", all.may(1, 1, 0), 63);
    }

    private static void needsOfOthers() {
        Bench.sentence("for each class masks of what > , = , < are needed for");
        Bench bench = accepted(8, new String[] {"class f p q", "class g p q", "class h p q", "type a", "type b", "rank b 1"},
                "allow a b f p q", "allow a b g p q", "allow a b h p q", "need g > p", "need h = q");
        Bench.due("may of class f", bench.may(0, 1, 0), 3);
        Bench.due("may of class g", bench.may(0, 1, 1), 2);
        Bench.due("may of class h", bench.may(0, 1, 2), 1);
    }

    private static void dueCounts(Bench bench, String when, int hits, int misses, int answers) {
        Bench.due("hits " + when, bench.desk.count(2), hits);
        Bench.due("misses " + when, bench.desk.count(3), misses);
        Bench.due("answers " + when, bench.desk.count(4), answers);
    }

    private static void atMostSize() {
        Bench.sentence("MEMORY: at most SIZE answers");
        for (int size = 1; size <= 8; size++) {
            Bench bench = accepted(size, EIGHT, "class f p");
            for (int k = 1; k <= 12; k++) {
                bench.may(k % 8, k / 8, 0);
                dueCounts(bench, "of size " + size + " after " + k, 0, k, Math.min(k, size));
            }
        }
    }

    private static void hitOrMiss() {
        Bench.sentence("A question for s, t, c that is there is a HIT; otherwise it is a MISS");
        Bench bench = accepted(2, EIGHT, "class f p", "allow a a f p");
        Bench.due("the first", bench.may(0, 0, 0), 1);
        dueCounts(bench, "after the first", 0, 1, 1);
        Bench.due("the first again", bench.may(0, 0, 0), 1);
        dueCounts(bench, "after the first again", 1, 1, 1);
        // an answer of 0 is one, too
        bench.may(0, 1, 0);
        Bench.due("an answer of 0", bench.may(0, 1, 0), 0);
        dueCounts(bench, "after an answer of 0", 2, 2, 2);
        Bench.due("no such type", bench.may(8, 0, 0), Bench.NO_ELEMENT);
        dueCounts(bench, "after no such type", 2, 2, 2);
    }

    private static void forSomeSTC() {
        Bench.sentence("each for some s, t, c");
        Bench bench = accepted(8, new String[] {"class f p q r", "class g p q r", "type a", "type b"}, "allow a b f p", "allow b a f q",
                "allow a b g r", "allow b a g p q", "allow a a f q r", "allow b b f p r", "allow a a g p q r");
        int[] want = {6, 1, 2, 5, 7, 4, 3, 0};
        for (int k = 0; k < 16; k++) {
            Bench.due("question " + k, bench.may(k / 2 % 2, k % 2, k / 4 % 2), want[k % 8]);
        }
        dueCounts(bench, "after eight questions twice", 8, 8, 8);
    }

    private static void longestAgo() {
        Bench.sentence("put there, in place of the one that was asked for longest ago, if there is no room");
        // first the one put there longest ago goes; then, being asked for, it stays and the next goes
        dueAsked(2, "AmBmCmBhCh AmBmCm");
        dueAsked(2, "AmBmAhCmAhBm");
        dueAsked(3, "AmBmCmAhDmAhChBmDm");
        dueAsked(1, "AmAhBmAmAhAhBm");
        dueAsked(8, "AmBmCmDmEmFmGmHm AhImAhBmDhCm IhHhGhFhEmAmDhBmCm");
    }

    /** Questions A .. I, each with whether it is a hit or a miss. */
    private static void dueAsked(int size, String questions) {
        Bench bench = accepted(size, EIGHT, "class f p", "class g p");
        String row = questions.replace(" ", "");
        int hits = 0;
        for (int k = 0; k < row.length(); k += 2) {
            int question = row.charAt(k) - 'A';
            bench.may(question % 8, question / 8, question % 2);
            hits += row.charAt(k + 1) == 'h' ? 1 : 0;
            Bench.due("hits in " + row + " at " + k, bench.desk.count(2), hits);
            Bench.due("misses in " + row + " at " + k, bench.desk.count(3), k / 2 + 1 - hits);
        }
    }

    private static void noPlaceTakenWithRoom() {
        Bench.sentence("if there is no room");
        for (int size = 1; size <= 8; size++) {
            String row = "AmBmCmDmEmFmGmHm".substring(0, 2 * size);
            dueAsked(size, row + row.replace('m', 'h'));
        }
    }

    private static void acceptEmpties() {
        Bench.sentence("A new policy empties it; hits and misses go on being counted: accept");
        Bench bench = accepted(4, new String[] {"class f p q", "type a"}, "allow a a f p");
        bench.may(0, 0, 0);
        bench.may(0, 0, 0);
        bench.addAll("allow a a f q");
        Bench.due("may before accept", bench.may(0, 0, 0), 1);
        bench.accept();
        dueCounts(bench, "after accept", 2, 1, 0);
        Bench.due("may after accept", bench.may(0, 0, 0), 3);
        dueCounts(bench, "after a question", 2, 2, 1);
        bench.accept();
        dueCounts(bench, "after accept of the same", 2, 2, 0);
    }

    private static void readEmpties() {
        Bench.sentence("A new policy empties it; hits and misses go on being counted: read");
        Bench bench = accepted(4, new String[] {"class f p q", "type a"}, "allow a a f p");
        bench.may(0, 0, 0);
        bench.may(0, 0, 0);
        bench.feed(1, 1, 2, 0, 2, 0, 0, 0, 0, 0, 0);
        Bench.due("may before read", bench.may(0, 0, 0), 1);
        bench.read();
        dueCounts(bench, "after read", 2, 1, 0);
        Bench.due("may after read", bench.may(0, 0, 0), 2);
        dueCounts(bench, "after a question", 2, 2, 1);
    }

    private static void refusedEmptiesNot() {
        Bench.sentence("A new policy empties it: what throws makes none");
        Bench bench = accepted(4, new String[] {"class f p q", "type a"}, "allow a a f p");
        bench.may(0, 0, 0);
        Bench.due("read of nothing", bench.read(), Bench.BAD_ARGUMENT);
        dueCounts(bench, "after a read that threw", 0, 1, 1);
        bench.addAll("never a a f p");
        Bench.due("accept against itself", bench.accept(), Bench.BAD_STATE);
        dueCounts(bench, "after an accept against itself", 0, 1, 1);
        bench.desk.cut(0);
        Bench.due("accept of nothing", bench.accept(), Bench.BAD_ARGUMENT);
        dueCounts(bench, "after an accept of what is wrong", 0, 1, 1);
        Bench.due("may", bench.may(0, 0, 0), 1);
        dueCounts(bench, "at last", 1, 1, 1);
    }

    private static void sees() {
        Bench.sentence("in one step from b to a, if a may do to b something by which it sees");
        Bench bench = accepted(1, new String[] {"class f p q", "type a", "type b"}, "allow a b f p", "sees f p");
        Bench.due("from b to a", bench.desk.flow(1, 0), 1);
        Bench.due("from a to b", bench.desk.flow(0, 1), PolicyDesk.NONE);
        Bench other = accepted(1, new String[] {"class f p q", "type a", "type b"}, "allow a b f p", "sees f q");
        Bench.due("by another permission", other.desk.flow(1, 0), PolicyDesk.NONE);
    }

    private static void puts() {
        Bench.sentence("and from a to b, if a may do something by which it puts");
        Bench bench = accepted(1, new String[] {"class f p q", "type a", "type b"}, "allow a b f p", "puts f p");
        Bench.due("from a to b", bench.desk.flow(0, 1), 1);
        Bench.due("from b to a", bench.desk.flow(1, 0), PolicyDesk.NONE);
        Bench both = accepted(1, new String[] {"class f p q", "type a", "type b"}, "allow a b f p", "puts f p", "sees f p");
        Bench.due("from a to b, both ways", both.desk.flow(0, 1), 1);
        Bench.due("from b to a, both ways", both.desk.flow(1, 0), 1);
    }

    private static void ofSomeClass() {
        Bench.sentence("of some class");
        String[] base = {"class f p q", "class g p q", "class h p q", "type a", "type b"};
        for (char c = 'f'; c <= 'h'; c++) {
            Bench bench = accepted(1, base, "allow a b " + c + " q", "sees " + c + " q", "puts " + c + " p");
            Bench.due("from b to a by class " + c, bench.desk.flow(1, 0), 1);
            Bench.due("from a to b by class " + c, bench.desk.flow(0, 1), PolicyDesk.NONE);
            char next = c == 'h' ? 'f' : (char) (c + 1);
            Bench other = accepted(1, base, "allow a b " + c + " p q", "sees " + next + " p q", "puts " + next + " p q");
            Bench.due("from b to a by another class than " + c, other.desk.flow(1, 0), PolicyDesk.NONE);
            Bench.due("from a to b by another class than " + c, other.desk.flow(0, 1), PolicyDesk.NONE);
        }
    }

    private static void flowsByWhatTheyMay() {
        Bench.sentence("if a may do to b: what a need forbids flows not");
        String[] base = {"class f p q", "type a", "type b", "rank a 1", "allow a b f p q", "sees f p", "puts f q"};
        Bench free = accepted(1, base);
        Bench.due("from a to b", free.desk.flow(0, 1), 1);
        Bench.due("from b to a", free.desk.flow(1, 0), 1);
        Bench puts = accepted(1, base, "need f < p");
        Bench.due("from a to b without p", puts.desk.flow(0, 1), 1);
        Bench.due("from b to a without p", puts.desk.flow(1, 0), PolicyDesk.NONE);
        Bench sees = accepted(1, base, "need f = q");
        Bench.due("from a to b without q", sees.desk.flow(0, 1), PolicyDesk.NONE);
        Bench.due("from b to a without q", sees.desk.flow(1, 0), 1);
    }

    private static void flowsWithoutMemory() {
        Bench.sentence("The memory has nothing to do with it");
        Bench bench = accepted(2, EIGHT, "class f p", "allow a b f p", "puts f p");
        bench.may(0, 0, 0);
        bench.may(1, 1, 0);
        bench.desk.flow(0, 1);
        bench.desk.flow(1, 0);
        bench.desk.flow(7, 7);
        dueCounts(bench, "after flows", 0, 2, 2);
        bench.may(0, 0, 0);
        bench.may(1, 1, 0);
        dueCounts(bench, "of what was there before", 2, 2, 2);
    }
}
