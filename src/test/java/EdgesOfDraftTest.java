/** Terms: the draft, when it is wrong and when it is against itself; a method for each sentence that names a boundary. */
public final class EdgesOfDraftTest {
    private static final String WRONG = Bench.BAD_ARGUMENT + " at ";
    private static final String AGAINST = Bench.BAD_STATE + " at ";
    private static final String[] EIGHT = {"type a", "type b", "type c", "type d", "type e", "type f", "type g", "type h"};
    private static final String[] BASE = {"class f p q", "class g p r", "type a x", "type b x y", "type c"};

    public static void main(String[] args) {
        atMost40();
        numberedFrom0();
        atTheFirst();
        classNameBefore();
        permissionsNotAllDifferent();
        fourthClass();
        typeNameBefore();
        nameOfAnAttribute();
        attributesNotAllDifferent();
        ninthType();
        makeBefore();
        rankBefore();
        undeclaredInAllowAndNever();
        undeclaredInMake();
        undeclaredInRank();
        undeclaredElsewhere();
        attributesNeedNoDeclaring();
        beforeOrBehind();
        rightOrWrong();
        classOfThatName();
        attributesForTypes();
        selfAsT();
        anyNumberOfAttributes();
        withoutType();
        withoutClass();
        firstNever();
        someTypes();
        oneOfThePermissions();
        sameTypesAndClass();
        selfStandsForTypes();
        attributesStandForTypes();
        Bench.finish();
    }

    private static Bench filled(int many) {
        Bench bench = Bench.with("class f p", "type a");
        for (int k = 2; k < many; k++) {
            bench.addAll("sees f p");
        }
        return bench;
    }

    private static void atMost40() {
        Bench.sentence("A DRAFT is a row of at most 40 statements");
        Bench bench = filled(39);
        Bench.due("the 40th", bench.add("rank a 5"), 39);
        Bench.due("the 41st", bench.add("rank a 6"), Bench.BAD_STATE);
        Bench.due("how many", bench.desk.count(5), 40);
        Bench.due("accept of 40", bench.accept(), 1);
        bench.desk.image();
        Bench.due("what the 40th told", bench.desk.imageAt(3), 5);
    }

    private static void numberedFrom0() {
        Bench.sentence("numbered from 0 on");
        Bench bench = new Bench(1);
        for (int k = 0; k < 40; k++) {
            Bench.due("number of a statement", bench.add("type a"), k);
        }
        bench.accept();
        Bench.due("number of the second type a", bench.desk.fault(), 1);
    }

    private static void atTheFirst() {
        Bench.sentence("It is WRONG at the first statement that, seen with all of the draft");
        Bench.dueBehind(BASE, WRONG + 5, "rank z 1", "rank z 2", "type a", "class f p");
        Bench.dueBehind(BASE, WRONG + 6, "rank a 1", "rank a 2", "rank z 2");
        Bench.dueOfDraft(WRONG + 0, "rank z 1", "class f p p", "type a a");
        Bench bench = filled(39);
        bench.addAll("rank z 1");
        bench.accept();
        Bench.due("fault of the last of 40", bench.desk.fault(), 39);
        // an attribute behind makes the type before it wrong, not itself
        Bench.dueOfDraft(WRONG + 1, "class f p", "type a", "type b", "type c a b");
    }

    private static void classNameBefore() {
        Bench.sentence("is a class whose name was that of a class before it");
        Bench.dueOfDraft(WRONG + 1, "class f p", "class f p", "type a");
        Bench.dueOfDraft(WRONG + 3, "class f p", "type a", "class g p", "class f q");
        Bench.dueOfDraft(WRONG + 2, "class abcd p", "type a", "class abcd q");
        Bench.dueOfDraft("1", "class f p", "class ff p", "class fff p", "type a");
        Bench.dueOfDraft("1", "class abcd p", "class abce p", "class bbcd p", "type a");
        Bench.dueOfDraft("1", "type f", "class f f");
    }

    private static void permissionsNotAllDifferent() {
        Bench.sentence("or whose permissions are not all different");
        Bench.dueOfDraft("1", "class f p q r s t u", "type a");
        Bench.dueOfDraft("1", "class p p pp ppp pppp", "type a");
        String[] names = {"p", "q", "r", "s", "t", "u"};
        for (int i = 0; i < 6; i++) {
            for (int j = i + 1; j < 6; j++) {
                String[] some = names.clone();
                some[j] = some[i];
                Bench.dueOfDraft(WRONG + 1, "type a", "class f " + String.join(" ", some));
            }
        }
        Bench.dueOfDraft(WRONG + 0, "class f p p", "type a");
    }

    private static void fourthClass() {
        Bench.sentence("or the fourth class");
        Bench.dueOfDraft("1", "class f p", "class g p", "class h p", "type a");
        Bench.dueOfDraft(WRONG + 3, "class f p", "class g p", "class h p", "class i p", "type a");
        Bench.dueOfDraft(WRONG + 5, "class f p", "type a", "class g p", "type b", "class h p", "class i p", "class j p");
    }

    private static void typeNameBefore() {
        Bench.sentence("a type whose name was that of a type before it");
        Bench.dueOfDraft(WRONG + 2, "class f p", "type a", "type a");
        Bench.dueOfDraft(WRONG + 3, "type a x", "class f p", "type b", "type a y");
        Bench.dueOfDraft(WRONG + 2, "class f p", "type wxyz", "type wxyz");
        Bench.dueOfDraft("4", "class f p", "type a", "type aa", "type aaa", "type aaaa");
        Bench.dueOfDraft("4", "class f p", "type abcd", "type abce", "type bbcd", "type dcba");
    }

    private static void nameOfAnAttribute() {
        Bench.sentence("or is that of an attribute of any type");
        Bench.dueOfDraft(WRONG + 2, "class f p", "type b a", "type a");
        Bench.dueOfDraft(WRONG + 1, "class f p", "type a", "type b a");
        Bench.dueOfDraft(WRONG + 1, "class f p", "type a a");
        Bench.dueOfDraft(WRONG + 1, "class f p", "type a", "type b w x y a");
        Bench.dueOfDraft(WRONG + 0, "type a", "type b", "type c", "type d", "type e", "type f", "type g", "type h a", "class f p");
        Bench.dueOfDraft(WRONG + 1, "type b a", "type a", "class f p");
        Bench.dueOfDraft("2", "class f p", "type a b", "type c f p");
    }

    private static void attributesNotAllDifferent() {
        Bench.sentence("or whose attributes are not all different");
        Bench.dueOfDraft("1", "class f p", "type a w x y z");
        String[] names = {"w", "x", "y", "z"};
        for (int i = 0; i < 4; i++) {
            for (int j = i + 1; j < 4; j++) {
                String[] some = names.clone();
                some[j] = some[i];
                Bench.dueOfDraft(WRONG + 1, "class f p", "type a " + String.join(" ", some));
            }
        }
        Bench.dueOfDraft(WRONG + 1, "class f p", "type a x x");
        Bench.dueOfDraft("2", "class f p", "type a x", "type b x");
    }

    private static void ninthType() {
        Bench.sentence("or the ninth type");
        Bench.dueBehind(EIGHT, "8", "class f p");
        Bench.dueBehind(EIGHT, WRONG + 8, "type i", "class f p");
        Bench.dueBehind(EIGHT, WRONG + 9, "class f p", "type i", "type j");
    }

    private static void makeBefore() {
        Bench.sentence("the make of s, t, c that one before it makes, too");
        Bench.dueBehind(BASE, WRONG + 6, "make a b f c", "make a b f c");
        Bench.dueBehind(BASE, WRONG + 6, "make a b f c", "make a b f a");
        Bench.dueBehind(BASE, WRONG + 8, "make a b f c", "make b a f c", "make a b g c", "make a b f b");
        Bench.dueBehind(BASE, WRONG + 6, "make a a f a", "make a a f a");
        Bench.dueBehind(BASE, "3", "make a b f c", "make b a f c", "make a b g c", "make a a f c", "make b b f c",
                "make c b f c", "make a c f c");
    }

    private static void rankBefore() {
        Bench.sentence("the rank of a type that one before it tells, too");
        Bench.dueBehind(BASE, WRONG + 6, "rank a 1", "rank a 2");
        Bench.dueBehind(BASE, WRONG + 6, "rank a 0", "rank a 0");
        Bench.dueBehind(BASE, WRONG + 8, "rank a 1", "rank b 1", "rank c 1", "rank a 1");
        Bench.dueBehind(BASE, "3", "rank a 1", "rank b 1", "rank c 1");
    }

    private static void undeclaredInAllowAndNever() {
        for (String kind : new String[] {"allow", "never"}) {
            Bench.sentence("or that names what no statement of the draft declares: " + kind);
            Bench.dueBehind(BASE, "3", kind + " a b f p");
            Bench.dueBehind(BASE, WRONG + 5, kind + " z b f p");
            Bench.dueBehind(BASE, WRONG + 5, kind + " a z f p");
            Bench.dueBehind(BASE, WRONG + 5, kind + " a b z p");
            Bench.dueBehind(BASE, WRONG + 5, kind + " a b f z");
            Bench.dueBehind(BASE, WRONG + 5, kind + " a b f z p p p p p");
            Bench.dueBehind(BASE, WRONG + 5, kind + " a b f p p p p p z");
            // names of another kind of thing
            Bench.dueBehind(BASE, WRONG + 5, kind + " f b f p");
            Bench.dueBehind(BASE, WRONG + 5, kind + " a p f p");
            Bench.dueBehind(BASE, WRONG + 5, kind + " a b a p");
            Bench.dueBehind(BASE, WRONG + 5, kind + " a b x p");
            Bench.dueBehind(BASE, WRONG + 5, kind + " a b f x");
        }
    }

    private static void undeclaredInMake() {
        Bench.sentence("or that names what no statement of the draft declares: make");
        Bench.dueBehind(BASE, "3", "make a b f c");
        Bench.dueBehind(BASE, WRONG + 5, "make z b f c");
        Bench.dueBehind(BASE, WRONG + 5, "make a z f c");
        Bench.dueBehind(BASE, WRONG + 5, "make a b z c");
        Bench.dueBehind(BASE, WRONG + 5, "make a b f z");
        Bench.dueBehind(BASE, WRONG + 5, "make a b p c");
        Bench.dueBehind(BASE, WRONG + 5, "make a b f f");
    }

    private static void undeclaredInRank() {
        Bench.sentence("or that names what no statement of the draft declares: rank");
        Bench.dueBehind(BASE, "3", "rank a 1");
        Bench.dueBehind(BASE, WRONG + 5, "rank z 1");
        Bench.dueBehind(BASE, WRONG + 5, "rank f 1");
        Bench.dueBehind(BASE, WRONG + 5, "rank p 1");
    }

    private static void undeclaredElsewhere() {
        for (String begin : new String[] {"need f >", "need f =", "need f <", "sees f", "puts f"}) {
            Bench.sentence("or that names what no statement of the draft declares: " + begin);
            Bench.dueBehind(BASE, "3", begin + " p q p q p q");
            Bench.dueBehind(BASE, WRONG + 5, begin + " z");
            Bench.dueBehind(BASE, WRONG + 5, begin + " z p p p p p");
            Bench.dueBehind(BASE, WRONG + 5, begin + " p p p p p z");
            Bench.dueBehind(BASE, WRONG + 5, begin.replace('f', 'z') + " p");
            Bench.dueBehind(BASE, WRONG + 5, begin.replace('f', 'a') + " p");
        }
    }

    private static void attributesNeedNoDeclaring() {
        Bench.sentence("but attributes behind a type");
        Bench.dueOfDraft("1", "class f p", "type a one two six ten");
        Bench.dueOfDraft("1", "class f p", "type a f p self type");
    }

    private static void beforeOrBehind() {
        Bench.sentence("before or behind it");
        String[] uses = {
            "allow a b f p", "allow x y f p", "never b a f p", "make a b f b", "rank a 1", "need f > p", "sees f p", "puts f p"
        };
        String[] declared = {"class f p", "type a x", "type b y"};
        Bench.dueBehind(declared, "2", uses);
        Bench.dueBehind(uses, "2", declared);
        Bench.dueOfDraft("1", "type a x", "class f p", "allow x x f p", "rank a 1");
    }

    private static void rightOrWrong() {
        Bench.sentence("right or wrong");
        // the type that is wrong declares itself and its attributes, the class that is wrong its permissions
        Bench.dueOfDraft(WRONG + 2, "class f p", "rank b 1", "type b b");
        Bench.dueOfDraft(WRONG + 4, "class f p", "type a", "allow x a f p", "allow a y f p", "type a x y");
        Bench.dueOfDraft(WRONG + 3, "sees f p", "sees f q", "type a", "class f p q p");
        Bench.dueOfDraft(WRONG + 5, "class f p", "class g p", "class h p", "sees i p", "type a", "class i p");
        Bench.dueOfDraft(WRONG + 1, "make a a i a", "class i p p", "type a");
        Bench.dueBehind(EIGHT, WRONG + 10, "class f p", "make i i f i", "type i");
        Bench.dueBehind(EIGHT, WRONG + 10, "class f p", "allow x x f p", "type i x");
        Bench.dueOfDraft(WRONG + 0, "type x", "class f p", "type b", "type b x");
    }

    private static void classOfThatName() {
        Bench.sentence("a permission of a class of that name");
        Bench.dueBehind(BASE, "3", "sees f q", "sees g r");
        Bench.dueBehind(BASE, WRONG + 5, "sees f r");
        Bench.dueBehind(BASE, WRONG + 5, "sees g q");
        Bench.dueBehind(BASE, WRONG + 5, "allow a b g q");
        Bench.dueBehind(BASE, WRONG + 5, "sees f f");
        // the second class f is wrong, but its permissions are those of a class of that name
        Bench.dueBehind(BASE, WRONG + 6, "sees f z", "class f z");
        Bench.dueBehind(BASE, WRONG + 6, "sees f p z", "class f z");
    }

    private static void attributesForTypes() {
        Bench.sentence("a type, or for s and t of allow and never a type or an attribute");
        Bench.dueBehind(BASE, "3", "allow x c f p", "allow c x f p", "allow x y f p", "never x c f q", "never c x f q");
        Bench.dueBehind(BASE, WRONG + 5, "make x b f c");
        Bench.dueBehind(BASE, WRONG + 5, "make a x f c");
        Bench.dueBehind(BASE, WRONG + 5, "make a b f x");
        Bench.dueBehind(BASE, WRONG + 5, "rank x 1");
    }

    private static void selfAsT() {
        Bench.sentence("but self as t");
        Bench.dueBehind(BASE, "3", "allow a self f p", "allow x self f p", "never c self f p");
        Bench.dueBehind(BASE, WRONG + 5, "allow self a f p");
        Bench.dueBehind(BASE, WRONG + 5, "never self a f p");
        Bench.dueBehind(BASE, WRONG + 5, "allow self self f p");
        Bench.dueBehind(BASE, WRONG + 5, "make self b f c");
        Bench.dueBehind(BASE, WRONG + 5, "make a self f c");
        Bench.dueBehind(BASE, WRONG + 5, "make a b f self");
        Bench.dueBehind(BASE, WRONG + 5, "rank self 1");
        Bench.dueBehind(BASE, WRONG + 5, "allow a sel f p");
        Bench.dueBehind(BASE, WRONG + 5, "allow a selg f p");
        Bench.dueBehind(BASE, WRONG + 5, "allow a self self p");
        Bench.dueBehind(BASE, WRONG + 5, "allow a self f self");
    }

    private static void anyNumberOfAttributes() {
        Bench.sentence("A name is an attribute if it stands behind some type; there may be any number");
        Bench bench = Bench.with("class f p q");
        for (char type = 'a'; type <= 'h'; type++) {
            bench.addAll("type " + type + " " + type + "w " + type + "x " + type + "y " + type + "z");
        }
        for (char type = 'a'; type <= 'h'; type++) {
            bench.addAll("allow " + type + "w hz f p", "allow gz " + type + "x f q");
        }
        Bench.due("accept of 32 attributes", bench.accept(), 8);
        for (int s = 0; s < 8; s++) {
            for (int t = 0; t < 8; t++) {
                Bench.due("may(" + s + ", " + t + ", 0)", bench.may(s, t, 0), (t == 7 ? 1 : 0) + (s == 6 ? 2 : 0));
            }
        }
    }

    private static void withoutType() {
        Bench.sentence("A draft without a type is wrong at its end (the number of its statements)");
        Bench.dueOfDraft(WRONG + 0);
        Bench.dueOfDraft(WRONG + 1, "class f p");
        Bench.dueOfDraft(WRONG + 3, "class f p", "sees f p", "class g p");
        Bench.dueOfDraft(WRONG + 1, "class f p", "rank a 1");
        Bench bench = Bench.with("class f p");
        for (int k = 1; k < 40; k++) {
            bench.addAll("puts f p");
        }
        Bench.due("accept of 40 without a type", bench.accept(), Bench.BAD_ARGUMENT);
        Bench.due("fault of 40 without a type", bench.desk.fault(), 40);
    }

    private static void withoutClass() {
        Bench.sentence("A draft without a class is wrong at its end (the number of its statements)");
        Bench.dueOfDraft(WRONG + 1, "type a");
        Bench.dueOfDraft(WRONG + 2, "type a", "rank a 1");
        Bench.dueOfDraft(WRONG + 8, EIGHT);
        Bench.dueOfDraft(WRONG + 1, "type a", "sees f p");
        Bench.dueBehind(EIGHT, WRONG + 8, "type i");
    }

    private static void firstNever() {
        Bench.sentence("It is AGAINST ITSELF at the first never");
        Bench.dueBehind(BASE, AGAINST + 5, "never a b f p", "allow a b f p");
        Bench.dueBehind(BASE, AGAINST + 6, "allow a b f p", "never a b f p");
        Bench.dueBehind(BASE, AGAINST + 7, "never a c f p", "allow a b f p", "never a b f p", "never a b f p");
        Bench.dueBehind(BASE, AGAINST + 5, "never a c f p", "never a b f p", "allow a b f p", "allow a c f p");
        Bench.dueOfDraft(AGAINST + 0, "never a a f p", "type a", "class f p", "allow a a f p");
        Bench bench = filled(38);
        bench.addAll("allow a a f p", "never a a f p");
        Bench.due("accept of 40", bench.accept(), Bench.BAD_STATE);
        Bench.due("fault at the last of 40", bench.desk.fault(), 39);
    }

    private static void someTypes() {
        Bench.sentence("that names, for some types, a permission that some allow gives");
        Bench.dueBehind(BASE, AGAINST + 8, "allow c a f p", "allow c b f p", "allow c c f p", "never c c f p");
        Bench.dueBehind(BASE, AGAINST + 6, "allow b b f p", "never x x f p");
        Bench.dueBehind(BASE, AGAINST + 6, "allow x x f p", "never b a f p");
        Bench.dueBehind(BASE, "3", "never a b f p", "never x x g r");
        // what a need forbids is given all the same
        Bench.dueBehind(BASE, AGAINST + 8, "allow a b f p", "rank b 7", "need f > p", "never a b f p");
    }

    private static void oneOfThePermissions() {
        Bench.sentence("a permission that some allow gives");
        String[] six = {"class f p q r s t u", "type a"};
        for (char p = 'p'; p <= 'u'; p++) {
            Bench.dueBehind(six, AGAINST + 3, "allow a a f " + p, "never a a f p q r s t u");
            Bench.dueBehind(six, AGAINST + 3, "allow a a f p q r s t u", "never a a f " + p);
            Bench.dueBehind(six, "1", "allow a a f " + p, "never a a f " + (p == 'u' ? 'p' : (char) (p + 1)));
        }
        Bench.dueBehind(six, AGAINST + 4, "allow a a f p", "allow a a f q", "never a a f p");
    }

    private static void sameTypesAndClass() {
        Bench.sentence("for the same two types and class");
        Bench.dueBehind(BASE, "3", "allow a b f p", "never b a f p");
        Bench.dueBehind(BASE, "3", "allow a b f p", "never a a f p", "never b b f p", "never a c f p", "never c b f p");
        Bench.dueBehind(BASE, "3", "allow a b f p", "never a b g p");
        Bench.dueBehind(BASE, AGAINST + 6, "allow a b g p", "never a b g p");
    }

    private static void selfStandsForTypes() {
        Bench.sentence("self standing for types");
        Bench.dueBehind(BASE, AGAINST + 6, "allow a self f p", "never a a f p");
        Bench.dueBehind(BASE, AGAINST + 6, "allow a a f p", "never a self f p");
        Bench.dueBehind(BASE, AGAINST + 6, "allow a self f p", "never a self f p");
        Bench.dueBehind(BASE, AGAINST + 6, "allow x self f p", "never b b f p");
        Bench.dueBehind(BASE, AGAINST + 6, "allow b b f p", "never x self f p");
        Bench.dueBehind(BASE, "3", "allow x self f p", "never a b f p", "never b a f p", "never c self f p");
        Bench.dueBehind(BASE, "3", "allow a b f p", "never x self f p");
    }

    private static void attributesStandForTypes() {
        Bench.sentence("attributes standing for types");
        Bench.dueBehind(BASE, AGAINST + 6, "allow x c f p", "never b c f p");
        Bench.dueBehind(BASE, AGAINST + 6, "allow c x f p", "never c a f p");
        Bench.dueBehind(BASE, AGAINST + 6, "allow b c f p", "never x c f p");
        Bench.dueBehind(BASE, AGAINST + 6, "allow c b f p", "never c y f p");
        Bench.dueBehind(BASE, AGAINST + 6, "allow x y f p", "never y x f p");
        Bench.dueBehind(BASE, "3", "allow x c f p", "never c c f p", "never c x f p", "never x x f p");
        Bench.dueBehind(BASE, "3", "allow y c f p", "never a c f p");
    }
}
