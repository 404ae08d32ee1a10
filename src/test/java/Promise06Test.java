/** Promise 6: accept, with what makes a draft wrong or against itself. */
public final class Promise06Test {
    private static final String WRONG = Bench.BAD_ARGUMENT + " at ";
    private static final String AGAINST = Bench.BAD_STATE + " at ";

    public static void main(String[] args) {
        right();
        classes();
        types();
        makesAndRanks();
        undeclared();
        ends();
        against();
        policyBefore();
        draftStays();
        Bench.finish();
    }

    private static void right() {
        Bench.dueOfDraft("1", "class f p", "type a");
        Bench.dueOfDraft("1", "type a", "class f p");
        Bench.dueOfDraft("1", "class a a", "type a b");
        Bench.dueOfDraft("8", "class f p", "type a", "type b", "type c", "type d", "type e", "type f", "type g", "type h");
        Bench.dueOfDraft("2", "class f p", "class g p", "class h p", "type a x y z w", "type b x y z w");
        // what is named may be declared behind
        Bench.dueOfDraft("2", "allow x b f p", "make a b f a", "rank a 1", "need f > p", "sees f p", "puts f p",
                "never b self f p", "class f p", "type a x", "type b");
        Bench.dueOfDraft("1", "class f p", "type a", "allow a a f p p p p p p", "sees f p p", "need f = p p");
        Bench.dueOfDraft("1", "class f p", "type self", "allow self self f p", "rank self 1", "make self self f self");
        Bench.dueOfDraft("1", "class self self", "type a self", "allow self self self self");
    }

    private static void classes() {
        Bench.dueOfDraft(WRONG + 2, "class f p", "type a", "class f q");
        Bench.dueOfDraft(WRONG + 0, "class f p p", "type a");
        Bench.dueOfDraft(WRONG + 1, "type a", "class f p q r s t p");
        Bench.dueOfDraft(WRONG + 1, "type a", "class f p q r s t t");
        Bench.dueOfDraft(WRONG + 4, "type a", "class f p", "class g p", "class h p", "class i p");
        Bench.dueOfDraft(WRONG + 3, "class f p", "class g p", "class h p", "class i p", "class j p", "type a");
        Bench.dueOfDraft("1", "type f", "class f f");
    }

    private static void types() {
        Bench.dueOfDraft(WRONG + 2, "class f p", "type a", "type a x");
        Bench.dueOfDraft(WRONG + 1, "class f p", "type a", "type b a");
        Bench.dueOfDraft(WRONG + 2, "class f p", "type b a", "type a");
        Bench.dueOfDraft(WRONG + 1, "class f p", "type a a");
        Bench.dueOfDraft(WRONG + 1, "class f p", "type a x y z a");
        Bench.dueOfDraft(WRONG + 1, "class f p", "type a x x");
        Bench.dueOfDraft(WRONG + 1, "class f p", "type a x y z x");
        Bench.dueOfDraft(WRONG + 1, "class f p", "type a w x y y");
        Bench.dueOfDraft(WRONG + 9, "class f p", "type a", "type b", "type c", "type d", "type e", "type f", "type g",
                "type h", "type i");
        Bench.dueOfDraft(WRONG + 1, "type b a", "type a", "class f p");
        Bench.dueOfDraft(WRONG + 0, "type a a", "class f p");
        // an attribute of a type that is wrong itself counts, too
        Bench.dueOfDraft(WRONG + 0, "type x", "class f p", "type b", "type b x");
    }

    private static void makesAndRanks() {
        String[] base = {"class f p", "class g p", "type a x", "type b"};
        Bench.dueBehind(base, WRONG + 5, "make a b f a", "make a b f a");
        Bench.dueBehind(base, WRONG + 5, "make a b f a", "make a b f b");
        Bench.dueBehind(base, "2", "make a b f a", "make b a f a", "make a a f a", "make b b f a", "make a b g a");
        Bench.dueBehind(base, WRONG + 6, "make a b f a", "make a b g a", "make a b f b");
        Bench.dueBehind(base, WRONG + 4, "make x b f a");
        Bench.dueBehind(base, WRONG + 4, "make a x f a");
        Bench.dueBehind(base, WRONG + 4, "make a b f x");
        Bench.dueBehind(base, WRONG + 4, "make a self f a");
        Bench.dueBehind(base, WRONG + 4, "make z b f a");
        Bench.dueBehind(base, WRONG + 4, "make a z f a");
        Bench.dueBehind(base, WRONG + 4, "make a b z a");
        Bench.dueBehind(base, WRONG + 4, "make a b f z");
        Bench.dueBehind(base, WRONG + 5, "rank a 1", "rank a 2");
        Bench.dueBehind(base, WRONG + 5, "rank a 1", "rank a 1");
        Bench.dueBehind(base, "2", "rank a 1", "rank b 1");
        Bench.dueBehind(base, WRONG + 4, "rank x 1");
        Bench.dueBehind(base, WRONG + 4, "rank z 1");
        Bench.dueBehind(base, WRONG + 4, "rank f 1");
        Bench.dueBehind(base, WRONG + 4, "rank self 1");
    }

    private static void undeclared() {
        String[] base = {"class f p", "class g q", "type a x", "type b"};
        for (String kind : new String[] {"allow", "never"}) {
            Bench.dueBehind(base, "2", kind + " a b f p");
            Bench.dueBehind(base, "2", kind + " x x f p");
            Bench.dueBehind(base, "2", kind + " x self f p");
            Bench.dueBehind(base, WRONG + 4, kind + " z b f p");
            Bench.dueBehind(base, WRONG + 4, kind + " a z f p");
            Bench.dueBehind(base, WRONG + 4, kind + " self b f p");
            Bench.dueBehind(base, WRONG + 4, kind + " self self f p");
            Bench.dueBehind(base, WRONG + 4, kind + " a b z p");
            Bench.dueBehind(base, WRONG + 4, kind + " a b f q");
            Bench.dueBehind(base, WRONG + 4, kind + " a b f p p p p p q");
            Bench.dueBehind(base, WRONG + 4, kind + " f b f p");
            Bench.dueBehind(base, WRONG + 4, kind + " a g f p");
            Bench.dueBehind(base, WRONG + 4, kind + " a b a p");
        }
        for (String begin : new String[] {"need f >", "sees f", "puts f"}) {
            Bench.dueBehind(base, "2", begin + " p");
            Bench.dueBehind(base, WRONG + 4, begin + " q");
            Bench.dueBehind(base, WRONG + 4, begin + " p q");
            Bench.dueBehind(base, WRONG + 4, begin.replace('f', 'z') + " p");
            Bench.dueBehind(base, WRONG + 4, begin.replace('f', 'a') + " p");
        }
        // a class is no permission of its own
        Bench.dueOfDraft(WRONG + 2, "class f p", "type a", "sees f f");
        Bench.dueOfDraft("1", "class f p f", "type a", "sees f f");
        // a class that is wrong declares its permissions all the same, and the first that is wrong counts
        Bench.dueOfDraft(WRONG + 3, "class f p", "type a", "sees f q", "class f q");
        Bench.dueOfDraft(WRONG + 2, "class f p", "type a", "sees f r", "class f q");
        Bench.dueOfDraft(WRONG + 4, "class f p", "class g p", "class h p", "sees i p", "class i p", "type a");
        // so does a type, though there are nine
        Bench.dueOfDraft(WRONG + 10, "class f p", "rank i 1", "type a", "type b", "type c", "type d", "type e", "type f",
                "type g", "type h", "type i");
        Bench.dueOfDraft(WRONG + 3, "class f p", "type a", "allow x y f p", "type a x y");
    }

    private static void ends() {
        Bench.dueOfDraft(WRONG + 0);
        Bench.dueOfDraft(WRONG + 1, "class f p");
        Bench.dueOfDraft(WRONG + 1, "type a");
        Bench.dueOfDraft(WRONG + 3, "class f p", "sees f p", "need f > p");
        Bench.dueOfDraft(WRONG + 2, "type a", "rank a 1");
        Bench.dueOfDraft(WRONG + 1, "class f p", "rank a 1");
        Bench.dueOfDraft(WRONG + 1, "type a", "sees f p");
    }

    private static void against() {
        String[] base = {"class f p q", "class g p q", "type a x", "type b x y", "type c"};
        Bench.dueBehind(base, AGAINST + 6, "allow a b f p", "never a b f p");
        Bench.dueBehind(base, AGAINST + 5, "never a b f p", "allow a b f p");
        Bench.dueBehind(base, AGAINST + 5, "never a b f q p", "allow a b f p");
        Bench.dueBehind(base, "3", "allow a b f p", "never a b f q");
        Bench.dueBehind(base, "3", "allow a b f p", "never b a f p");
        Bench.dueBehind(base, "3", "allow a b f p", "never a b g p");
        Bench.dueBehind(base, "3", "allow a b f p", "never a self f p");
        Bench.dueBehind(base, AGAINST + 6, "allow a a f p", "never a self f p");
        Bench.dueBehind(base, AGAINST + 6, "allow x self f p", "never b b f p");
        Bench.dueBehind(base, "3", "allow x self f p", "never a b f p");
        Bench.dueBehind(base, "3", "allow x self f p", "never c x f p");
        Bench.dueBehind(base, AGAINST + 6, "allow x self f p", "never x x f p");
        Bench.dueBehind(base, AGAINST + 6, "allow x y f p", "never a y f p");
        Bench.dueBehind(base, AGAINST + 6, "allow x y f p", "never x b f p");
        Bench.dueBehind(base, "3", "allow x y f p", "never x a f p");
        Bench.dueBehind(base, "3", "allow x y f p", "never c x f p");
        Bench.dueBehind(base, AGAINST + 6, "allow y y f p", "never x self f p");
        Bench.dueBehind(base, AGAINST + 7, "allow a b f p", "never a c f p", "never a b f p", "never a b f p");
        Bench.dueBehind(base, AGAINST + 7, "allow c c f p", "allow c c f q", "never c c f q");
        Bench.dueOfDraft(AGAINST + 0, "never a x f p", "type a x", "class f p", "allow x a f p");
        Bench.dueOfDraft(AGAINST + 2, "type a x", "allow x a f p", "never a x f p", "class f p");
        // what a need forbids is given all the same
        Bench.dueBehind(base, AGAINST + 8, "allow a b f p", "rank b 3", "need f > p", "never a b f p");
        // wrong goes before against itself
        Bench.dueBehind(base, WRONG + 7, "allow a b f p", "never a b f p", "rank z 1");
    }

    private static void policyBefore() {
        Bench bench = Bench.with("class f p", "type a", "allow a a f p");
        Bench.due("accept", bench.accept(), 1);
        Bench.due("may", bench.may(0, 0, 0), 1);
        bench.addAll("never a a f p", "type b", "rank a 5");
        Bench.due("accept against itself", bench.accept(), Bench.BAD_STATE);
        Bench.due("may by the policy before", bench.may(0, 0, 0), 1);
        Bench.due("may of a type to come", bench.may(1, 0, 0), Bench.NO_ELEMENT);
        Bench.due("hits, since the memory stayed", bench.desk.count(2), 1);
        bench.desk.image();
        Bench.due("image of the policy before", bench.imageBytes(), "1 1 1 0 1 0 0 0 0 0 0");
        bench.addAll("rank z 1");
        Bench.due("accept of what is wrong", bench.accept(), Bench.BAD_ARGUMENT);
        Bench.due("types of the policy before", bench.desk.count(0), 1);
        Bench.due("answers, since the memory stayed", bench.desk.count(4), 1);
    }

    private static void draftStays() {
        Bench bench = Bench.with("class f p q", "type a", "allow a a f p", "rank a 3", "make a a f a");
        Bench.due("accept", bench.accept(), 1);
        Bench.due("statements then", bench.desk.count(5), 5);
        Bench.due("accept again", bench.accept(), 1);
        bench.desk.cut(2);
        bench.addAll("allow a a f q");
        Bench.due("accept of another end", bench.accept(), 1);
        Bench.due("may, without what was before", bench.may(0, 0, 0), 2);
        Bench.due("accept, the third", bench.accept(), 1);
        bench.desk.image();
        Bench.due("image without what was before", bench.imageBytes(), "1 1 2 0 2 0 0 0 0 0 0");
    }
}
