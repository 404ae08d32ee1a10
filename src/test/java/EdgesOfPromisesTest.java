/** Promises 1 to 7, which make a draft and a policy of it; a method for each sentence that names a boundary. */
public final class EdgesOfPromisesTest {
    private static final int NONE = PolicyDesk.NONE;
    private static final int[] FAR = {Integer.MIN_VALUE, Integer.MIN_VALUE + 1, -256, -2, 256, Integer.MAX_VALUE};
    /** Statements that name what nothing declares but one that is no longer, or was never, there. */
    private static final String[] NAMING = {"rank z 1", "allow z a f p", "allow a z f p", "allow w a f p", "sees f q", "make a a g a"};
    private static final String[] DECLARING = {"type z", "type z", "type z", "type b w", "class f q", "class g p"};

    public static void main(String[] args) {
        sizeTooSmall();
        sizeTooLarge();
        noPolicyAtFirst();
        emptyDraftAtFirst();
        nothingFedAtFirst();
        upToEight();
        fromTheHighest();
        zerosAreNone();
        refusedForACode();
        refusedForRoom();
        numberOfAStatement();
        noStatement();
        thereAre40();
        refusedDeclaresNothing();
        bothHold();
        positionOfTheLatest();
        positionBeforeAdd();
        positionAfterAStatement();
        positionAfter40();
        cutToNothing();
        cutToAll();
        whatIsCutDeclaresNothing();
        cutRefused();
        eachStatementCounts();
        nothingOfPoliciesBefore();
        acceptKeepsTheDraft();
        acceptAnswersTypes();
        acceptOfWrong();
        acceptOfAgainst();
        wrongGoesFirst();
        policyBeforeStays();
        noPolicyBeforeStays();
        faultBeforeAccept();
        faultOfTheLatest();
        faultAfterAnAnswer();
        Bench.finish();
    }

    private static int roomOf(int size) {
        Bench bench = Bench.sized(size, "class f p", "type a", "type b", "type c");
        bench.accept();
        for (int k = 0; k < 9; k++) {
            bench.may(k / 3, k % 3, 0);
        }
        return bench.desk.count(4);
    }

    private static void sizeTooSmall() {
        Bench.sentence("Promise 1: SIZE is size, but 1 if that is less");
        int[] sizes = {Integer.MIN_VALUE, -1000, -8, -2, -1, 0};
        for (int size : sizes) {
            Bench.due("room of size " + size, roomOf(size), 1);
        }
        for (int size = 1; size <= 8; size++) {
            Bench.due("room of size " + size, roomOf(size), size);
        }
    }

    private static void sizeTooLarge() {
        Bench.sentence("Promise 1: and 8 if that is more");
        int[] sizes = {8, 9, 10, 64, 1000, 1 << 30, Integer.MAX_VALUE};
        for (int size : sizes) {
            Bench.due("room of size " + size, roomOf(size), 8);
        }
    }

    private static void noPolicyAtFirst() {
        Bench.sentence("Promise 1: No policy");
        Bench bench = new Bench(8);
        Bench.due("types", bench.desk.count(0), 0);
        Bench.due("classes", bench.desk.count(1), 0);
        Bench.due("may", bench.may(0, 0, 0), Bench.NO_ELEMENT);
        Bench.due("made", bench.desk.made(0, 0, 0), NONE);
        Bench.due("flow", bench.desk.flow(0, 0), NONE);
        Bench.due("image", bench.desk.image(), 0);
    }

    private static void emptyDraftAtFirst() {
        Bench.sentence("Promise 1: an empty draft");
        Bench bench = new Bench(8);
        Bench.due("statements", bench.desk.count(5), 0);
        Bench.due("cut(1)", bench.desk.cut(1), false);
        Bench.due("cut(0)", bench.desk.cut(0), true);
        Bench.due("accept", bench.accept(), Bench.BAD_ARGUMENT);
        Bench.due("fault", bench.desk.fault(), 0);
        Bench.due("the first add", bench.add("type a"), 0);
    }

    private static void nothingFedAtFirst() {
        Bench.sentence("Promise 1: nothing fed");
        Bench.due("read", new Bench(8).read(), Bench.BAD_ARGUMENT);
        Bench.due("the first feed", new PolicyDesk(8).feed(0, 8), 8);
    }

    private static void upToEight() {
        Bench.sentence("Promise 2: Appends up to eight characters to the text");
        String text = "type abc";
        for (int many = 0; many <= 8; many++) {
            Bench bench = new Bench(1);
            Bench.due("write of " + many, bench.desk.write(Bench.packed(text.substring(0, many))), true);
            Bench.due("write of the rest", bench.desk.write(Bench.packed(text.substring(many))), true);
            Bench.due("add", Bench.outcome(bench.desk::add), 0);
            bench.addAll("class f p", "rank abc 1");
            Bench.due("accept", bench.accept(), 1);
        }
    }

    private static void fromTheHighest() {
        Bench.sentence("Promise 2: the codes of which are the eight bytes of w from the highest on");
        PolicyDesk desk = new PolicyDesk(1);
        Bench.due("write", desk.write(0x7479706520646362L), true);
        Bench.due("add of 'type dcb'", Bench.outcome(desk::add), 0);
        Bench.due("write the other way", desk.write(0x6263642065707974L), true);
        Bench.due("add of 'bcd epyt'", Bench.outcome(desk::add), Bench.BAD_ARGUMENT);
    }

    /** The six characters of "type a" at any six of the eight places. */
    private static void zerosAreNone() {
        Bench.sentence("Promise 2: but for those that are 0: true");
        String text = "type a";
        for (int places = 0; places < 256; places++) {
            if (Integer.bitCount(places) == 6) {
                long w = 0;
                int next = 0;
                for (int k = 0; k < 8; k++) {
                    w = w << 8 | ((places >> k & 1) != 0 ? text.charAt(next++) : 0);
                }
                PolicyDesk desk = new PolicyDesk(1);
                Bench.due("write of " + Long.toHexString(w), desk.write(w), true);
                Bench.due("add of " + Long.toHexString(w), Bench.outcome(desk::add), 0);
            }
        }
        Bench none = new Bench(1);
        Bench.due("write of no character", none.desk.write(0), true);
        Bench.due("write of 72", none.write("a".repeat(72)), true);
        Bench.due("write of no character behind 72", none.desk.write(0), true);
    }

    private static void refusedForACode() {
        Bench.sentence("Promise 2: False, changing nothing, if one of the others is not 32 .. 126");
        int[] codes = {1, 10, 31, 127, 128, 160, 255};
        for (int code : codes) {
            for (int place = 0; place < 64; place += 8) {
                Bench bench = new Bench(1);
                bench.write("type a");
                long w = 0x2062206320642065L & ~(255L << place) | (long) code << place;
                Bench.due("write of code " + code + " at bit " + place, bench.desk.write(w), false);
                Bench.due("write of the end", bench.write("bcd"), true);
                Bench.due("add", Bench.outcome(bench.desk::add), 0);
                bench.addAll("class f p", "rank abcd 1");
                Bench.due("accept of type abcd", bench.accept(), 1);
            }
        }
    }

    private static void refusedForRoom() {
        Bench.sentence("Promise 2: False, changing nothing, if they are more than there is room for");
        for (int room = 0; room < 8; room++) {
            Bench bench = new Bench(1);
            bench.write("a".repeat(72 - room));
            Bench.due("write of 8 with room for " + room, bench.desk.write(0x6161616161616161L), false);
            Bench.due("write of one more than " + room, bench.write("a".repeat(room + 1)), false);
            Bench.due("write of " + room, bench.write("a".repeat(room)), true);
            Bench.due("write of one more", bench.write("a"), false);
        }
    }

    private static void numberOfAStatement() {
        Bench.sentence("Promise 3: Takes the text as a statement at the end of the draft: its number");
        Bench bench = new Bench(1);
        Bench.due("the first", bench.add("class f p"), 0);
        Bench.due("no statement", bench.add("class f"), Bench.BAD_ARGUMENT);
        Bench.due("the second", bench.add("type a"), 1);
        bench.desk.cut(1);
        Bench.due("the second again", bench.add("type b"), 1);
        bench.addAll("rank b 1");
        Bench.due("accept", bench.accept(), 1);
    }

    private static void noStatement() {
        Bench.sentence("Promise 3: IllegalArgumentException if it is none");
        String[] texts = {"", " ", "a", "type", "type A", "types a", "type a ", "type abcde", "class c", "~".repeat(72)};
        for (String text : texts) {
            Bench bench = Bench.with("class f p", "type a");
            Bench.due("add of '" + text + "'", bench.add(text), Bench.BAD_ARGUMENT);
            Bench.due("statements then", bench.desk.count(5), 2);
            Bench.due("accept then", bench.accept(), 1);
        }
    }

    private static Bench full() {
        Bench bench = Bench.with("class f p", "type a");
        for (int k = 2; k < 40; k++) {
            bench.addAll("puts f p");
        }
        return bench;
    }

    private static void thereAre40() {
        Bench.sentence("Promise 3: IllegalStateException if there are 40");
        Bench bench = full();
        Bench.due("the 41st", bench.add("rank a 1"), Bench.BAD_STATE);
        Bench.due("statements then", bench.desk.count(5), 40);
        Bench.due("the 41st again", bench.add("rank z 1"), Bench.BAD_STATE);
        Bench.due("accept without the 41st", bench.accept(), 1);
        Bench.due("cut of one", bench.desk.cut(39), true);
        Bench.due("the 40th", bench.add("rank a 1"), 39);
    }

    private static void refusedDeclaresNothing() {
        Bench.sentence("Promise 3: what throws adds nothing");
        for (int k = 0; k < NAMING.length; k++) {
            Bench bench = full();
            bench.desk.cut(39);
            bench.addAll(NAMING[k]);
            Bench.due("add of the 41st", bench.add(DECLARING[k]), Bench.BAD_STATE);
            Bench.due("accept of " + NAMING[k], bench.accept(), Bench.BAD_ARGUMENT);
            Bench.due("fault of " + NAMING[k], bench.desk.fault(), 39);

            Bench half = Bench.with("class f p", "type a", NAMING[k]);
            Bench.due("add of no statement", half.add(DECLARING[k] + "~"), Bench.BAD_ARGUMENT);
            Bench.due("accept then", half.accept(), Bench.BAD_ARGUMENT);
            Bench.due("fault then", half.desk.fault(), 2);
        }
    }

    private static void bothHold() {
        Bench.sentence("Promise 3: The one named first, if both hold");
        Bench bench = full();
        Bench.due("no statement behind 40", bench.add("rank a 8"), Bench.BAD_ARGUMENT);
        Bench.due("its position", bench.desk.position(), 7);
        Bench.due("nothing behind 40", bench.add(""), Bench.BAD_ARGUMENT);
        Bench.due("its position", bench.desk.position(), 0);
        Bench.due("statements then", bench.desk.count(5), 40);
        Bench.due("accept then", bench.accept(), 1);
    }

    private static void positionOfTheLatest() {
        Bench.sentence("Promise 4: The position of the error, if add threw IllegalArgumentException latest");
        Bench bench = new Bench(1);
        bench.add("");
        Bench.due("position in no text", bench.desk.position(), 0);
        bench.add("rank a 8");
        Bench.due("position of the second", bench.desk.position(), 7);
        bench.add("allow abcd bcde cdef defg efgh fghi ghij hijk ijkl abcd");
        Bench.due("the greatest position", bench.desk.position(), 50);
        bench.write("type a");
        bench.desk.write(1);
        bench.desk.cut(0);
        bench.desk.cut(1);
        bench.accept();
        bench.read();
        bench.may(0, 0, 0);
        bench.desk.image();
        Bench.due("position after other calls", bench.desk.position(), 50);
        Bench.due("position, asked again", bench.desk.position(), 50);
    }

    private static void positionBeforeAdd() {
        Bench.sentence("Promise 4: NONE otherwise: before add");
        Bench bench = new Bench(1);
        Bench.due("position of a new desk", bench.desk.position(), NONE);
        bench.write("~");
        Bench.due("position before add", bench.desk.position(), NONE);
    }

    private static void positionAfterAStatement() {
        Bench.sentence("Promise 4: NONE otherwise: after a statement");
        Bench bench = new Bench(1);
        bench.add("rank a 8");
        bench.add("rank a 7");
        Bench.due("position", bench.desk.position(), NONE);
    }

    private static void positionAfter40() {
        Bench.sentence("Promise 4: NONE otherwise: after IllegalStateException");
        Bench bench = full();
        bench.add("rank a 8");
        Bench.due("position of no statement", bench.desk.position(), 7);
        Bench.due("the 41st", bench.add("rank a 7"), Bench.BAD_STATE);
        Bench.due("position then", bench.desk.position(), NONE);
    }

    private static void cutToNothing() {
        Bench.sentence("Promise 5: The draft has its first n statements alone: true, n being 0");
        Bench bench = full();
        Bench.due("cut(0)", bench.desk.cut(0), true);
        Bench.due("statements then", bench.desk.count(5), 0);
        Bench.due("cut(0) of nothing", bench.desk.cut(0), true);
        Bench.due("accept of nothing", bench.accept(), Bench.BAD_ARGUMENT);
        Bench.due("its fault", bench.desk.fault(), 0);
        Bench.due("the next statement", bench.add("type a"), 0);
    }

    private static void cutToAll() {
        Bench.sentence("Promise 5: The draft has its first n statements alone: true, n being how many there are");
        Bench bench = full();
        Bench.due("cut(40)", bench.desk.cut(40), true);
        Bench.due("statements then", bench.desk.count(5), 40);
        Bench.due("cut(39)", bench.desk.cut(39), true);
        Bench.due("statements then", bench.desk.count(5), 39);
        Bench.due("cut(39) again", bench.desk.cut(39), true);
        Bench.due("cut(2)", bench.desk.cut(2), true);
        Bench.due("accept of two", bench.accept(), 1);
        bench.desk.image();
        Bench.due("what was cut is not put", bench.desk.imageAt(10), 0);
    }

    private static void whatIsCutDeclaresNothing() {
        Bench.sentence("Promise 5: The draft has its first n statements alone");
        for (int k = 0; k < NAMING.length; k++) {
            Bench bench = Bench.with("class f p", "type a", NAMING[k], DECLARING[k]);
            Bench.due("cut(3)", bench.desk.cut(3), true);
            Bench.due("accept of " + NAMING[k], bench.accept(), Bench.BAD_ARGUMENT);
            Bench.due("fault of " + NAMING[k], bench.desk.fault(), 2);
        }
        Bench same = Bench.with("class f p q", "type a", "allow a a f q", "class f q p");
        same.desk.cut(3);
        Bench.due("accept without the other class f", same.accept(), 1);
        Bench.due("may without the other class f", same.may(0, 0, 0), 2);
        Bench attribute = Bench.with("class f p", "type a", "type b a");
        attribute.desk.cut(2);
        Bench.due("accept without the attribute a", attribute.accept(), 1);
        Bench type = Bench.with("type a", "class f p");
        type.desk.cut(1);
        Bench.due("accept without the class", type.accept(), Bench.BAD_ARGUMENT);
        Bench.due("fault without the class", type.desk.fault(), 1);
    }

    private static void cutRefused() {
        Bench.sentence("Promise 5: False if n is not 0 up to how many there are");
        Bench bench = full();
        Bench.due("cut(-1)", bench.desk.cut(-1), false);
        Bench.due("cut(41)", bench.desk.cut(41), false);
        for (int n : FAR) {
            Bench.due("cut(" + n + ")", bench.desk.cut(n), false);
        }
        Bench.due("statements then", bench.desk.count(5), 40);
        bench.desk.cut(5);
        Bench.due("cut(6) of 5", bench.desk.cut(6), false);
        Bench.due("statements then", bench.desk.count(5), 5);
        bench.desk.cut(0);
        Bench.due("cut(1) of nothing", bench.desk.cut(1), false);
        Bench.due("cut(-1) of nothing", bench.desk.cut(-1), false);
        Bench.due("statements at last", bench.desk.count(5), 0);
    }

    /** The same policy, whether a statement is the first or the last. */
    private static void eachStatementCounts() {
        Bench.sentence("Promise 6: The draft becomes the policy, from its first statement to its last");
        String[] told = {
            "allow a b f q", "allow x self f q", "make a b f b", "rank a 1", "need f > q", "need f = q", "need f < q", "sees f q", "puts f q"
        };
        String[] want = {
            "2 1 2 0 0 0 2 0 0 0 0 0 0 0 0 0 0 0", "2 1 2 0 0 2 0 0 2 0 0 0 0 0 0 0 0 0", "2 1 2 0 0 0 0 0 0 0 2 0 0 0 0 0 0 0",
            "2 1 2 1 0 0 0 0 0 0 0 0 0 0 0 0 0 0", "2 1 2 0 0 0 0 0 0 0 0 0 0 2 0 0 0 0", "2 1 2 0 0 0 0 0 0 0 0 0 0 0 2 0 0 0",
            "2 1 2 0 0 0 0 0 0 0 0 0 0 0 0 2 0 0", "2 1 2 0 0 0 0 0 0 0 0 0 0 0 0 0 2 0", "2 1 2 0 0 0 0 0 0 0 0 0 0 0 0 0 0 2"
        };
        for (int k = 0; k < told.length; k++) {
            dueImage(want[k], told[k], "class f p q", "type a x", "type b x");
            dueImage(want[k], "type a x", "type b x", "class f p q", told[k]);
        }
    }

    private static void dueImage(String want, String... statements) {
        Bench bench = Bench.with(statements);
        Bench.due("accept", bench.accept(), 2);
        bench.desk.image();
        Bench.due("image of " + String.join("; ", statements), bench.imageBytes(), want);
    }

    /** Two policies that tell much, so that something of either could stay, and then one that tells nothing. */
    private static void nothingOfPoliciesBefore() {
        Bench.sentence("Promise 6: The draft becomes the policy, and nothing of those before stays");
        Bench bench = Bench.with("class f p q", "type a x", "type b x", "class g p q", "type c x", "allow x x f p q", "allow x x g p q",
                "make a b f b", "make a a f a", "rank a 7", "rank b 6", "need f > p", "need f = p", "need f < p", "sees f p q", "puts f q");
        Bench.due("accept of much", bench.accept(), 3);
        Bench.due("accept of much again", bench.accept(), 3);
        bench.desk.cut(3);
        for (int k = 0; k < 2; k++) {
            Bench.due("accept of little", bench.accept(), 2);
            Bench.due("classes", bench.desk.count(1), 1);
            bench.desk.image();
            Bench.due("image of little", bench.imageBytes(), "2 1 2 0 0 0 0 0 0 0 0 0 0 0 0 0 0 0");
        }
    }

    private static void acceptKeepsTheDraft() {
        Bench.sentence("Promise 6: The draft (which stays) becomes the policy");
        Bench bench = Bench.with("class f p", "type a", "allow a a f p");
        Bench.due("accept", bench.accept(), 1);
        Bench.due("statements then", bench.desk.count(5), 3);
        Bench.due("accept again", bench.accept(), 1);
        Bench.due("the next statement", bench.add("never a a f p"), 3);
        Bench.due("accept against itself", bench.accept(), Bench.BAD_STATE);
        Bench.due("statements after it", bench.desk.count(5), 4);
        bench.addAll("type a");
        Bench.due("accept of what is wrong", bench.accept(), Bench.BAD_ARGUMENT);
        Bench.due("statements at last", bench.desk.count(5), 5);
    }

    private static void acceptAnswersTypes() {
        Bench.sentence("Promise 6: how many types it has");
        Bench bench = Bench.with("class f p");
        for (int types = 1; types <= 8; types++) {
            bench.addAll("type " + (char) ('a' + types));
            Bench.due("accept of " + types, bench.accept(), types);
            Bench.due("types then", bench.desk.count(0), types);
        }
    }

    private static void acceptOfWrong() {
        Bench.sentence("Promise 6: IllegalArgumentException if it is wrong");
        Bench.due("accept of nothing", new Bench(1).accept(), Bench.BAD_ARGUMENT);
        Bench.due("accept without a type", Bench.with("class f p").accept(), Bench.BAD_ARGUMENT);
        Bench.due("accept without a class", Bench.with("type a").accept(), Bench.BAD_ARGUMENT);
        Bench.due("accept of two types a", Bench.with("class f p", "type a", "type a").accept(), Bench.BAD_ARGUMENT);
    }

    private static void acceptOfAgainst() {
        Bench.sentence("Promise 6: IllegalStateException if it is against itself");
        String[] texts = {"class f p", "type a", "allow a self f p", "never a a f p"};
        Bench.due("accept", Bench.with(texts).accept(), Bench.BAD_STATE);
    }

    private static void wrongGoesFirst() {
        Bench.sentence("Promise 6: a draft that is wrong behind the never that it is against");
        Bench.dueOfDraft(Bench.BAD_ARGUMENT + " at 4", "class f p", "type a", "never a a f p", "allow a a f p", "rank z 1");
    }

    private static void policyBeforeStays() {
        Bench.sentence("Promise 6: What throws leaves the policy before");
        Bench bench = Bench.with("class f p", "type a", "allow a a f p", "rank a 2", "make a a f a");
        bench.accept();
        bench.desk.cut(0);
        bench.addAll("class f p q", "class g p", "type b", "type a", "allow a b g p", "never a b g p");
        Bench.due("accept against itself", bench.accept(), Bench.BAD_STATE);
        duePolicyBefore(bench);
        bench.addAll("type a");
        Bench.due("accept of what is wrong", bench.accept(), Bench.BAD_ARGUMENT);
        duePolicyBefore(bench);
        bench.desk.cut(0);
        Bench.due("accept of nothing", bench.accept(), Bench.BAD_ARGUMENT);
        duePolicyBefore(bench);
        bench.accept();
        duePolicyBefore(bench);
    }

    private static void duePolicyBefore(Bench bench) {
        Bench.due("types of the policy before", bench.desk.count(0), 1);
        Bench.due("classes of the policy before", bench.desk.count(1), 1);
        Bench.due("may of the policy before", bench.may(0, 0, 0), 1);
        Bench.due("may of another policy", bench.may(1, 0, 1), Bench.NO_ELEMENT);
        Bench.due("made of the policy before", bench.desk.made(0, 0, 0), 0);
        Bench.due("image of the policy before", bench.desk.image(), 11);
        Bench.due("bytes of the policy before", bench.imageBytes(), "1 1 1 2 1 1 0 0 0 0 0");
    }

    private static void noPolicyBeforeStays() {
        Bench.sentence("Promise 6: What throws leaves the policy before, that is none");
        Bench bench = Bench.with("class f p", "type a", "allow a a f p", "never a a f p");
        Bench.due("accept against itself", bench.accept(), Bench.BAD_STATE);
        Bench.due("types then", bench.desk.count(0), 0);
        Bench.due("may then", bench.may(0, 0, 0), Bench.NO_ELEMENT);
        Bench.due("flow then", bench.desk.flow(0, 0), NONE);
        Bench.due("image then", bench.desk.image(), 0);
        bench.desk.cut(1);
        Bench.due("accept of what is wrong", bench.accept(), Bench.BAD_ARGUMENT);
        Bench.due("classes then", bench.desk.count(1), 0);
        Bench.due("may at last", bench.may(0, 0, 0), Bench.NO_ELEMENT);
    }

    private static void faultBeforeAccept() {
        Bench.sentence("Promise 7: NONE otherwise: before accept");
        Bench bench = Bench.with("type a", "type a");
        Bench.due("fault", bench.desk.fault(), NONE);
        bench.read();
        bench.add("~");
        Bench.due("fault after what other calls threw", bench.desk.fault(), NONE);
    }

    private static void faultOfTheLatest() {
        Bench.sentence("Promise 7: At which statement the draft was wrong or against itself, if accept threw latest");
        Bench bench = Bench.with("never a a f p", "class f p", "type a", "allow a a f p");
        bench.accept();
        Bench.due("fault of what is against itself", bench.desk.fault(), 0);
        bench.addAll("rank z 1");
        Bench.due("fault before the next accept", bench.desk.fault(), 0);
        bench.accept();
        Bench.due("fault of what is wrong", bench.desk.fault(), 4);
        bench.desk.cut(0);
        bench.add("~");
        bench.read();
        bench.may(0, 0, 0);
        Bench.due("fault after other calls", bench.desk.fault(), 4);
        Bench.due("fault, asked again", bench.desk.fault(), 4);
        bench.accept();
        Bench.due("fault of nothing", bench.desk.fault(), 0);
    }

    private static void faultAfterAnAnswer() {
        Bench.sentence("Promise 7: NONE otherwise: after an accept that answered");
        Bench bench = Bench.with("class f p", "type a", "rank z 1");
        bench.accept();
        Bench.due("fault of what is wrong", bench.desk.fault(), 2);
        bench.desk.cut(2);
        bench.accept();
        Bench.due("fault then", bench.desk.fault(), NONE);
        bench.addAll("allow a a f p", "never a a f p");
        bench.accept();
        Bench.due("fault of what is against itself", bench.desk.fault(), 3);
        bench.desk.cut(3);
        bench.accept();
        Bench.due("fault at last", bench.desk.fault(), NONE);
    }
}
