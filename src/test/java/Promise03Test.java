/** Promise 3: add. */
public final class Promise03Test {
    public static void main(String[] args) {
        statements();
        noStatements();
        numbers();
        full();
        theTextIsTaken();
        Bench.finish();
    }

    private static void statements() {
        String[] right = {
            "class c p", "class abcd a b c d e f", "class abcd abcd efgh ijkl mnop qrst uvwx", "class c c", "class c p p",
            "type t", "type t a", "type t a b c d", "type wxyz abcd efgh ijkl mnop", "type t a a", "type t t", "type self",
            "type type type", "allow s t c p", "allow s self c p", "allow self self self self", "allow s t c a b c d e f",
            "allow s t c p p", "allow abcd efgh ijkl mnop qrst uvwx yzab cdef ghij", "never s t c p",
            "never s self c a b c d e f", "make s t c n", "make abcd efgh ijkl mnop", "make s self c n", "make a a a a",
            "rank t 0", "rank abcd 7", "need c > p", "need c = p", "need c < p", "need abcd > a b c d e f",
            "need c = p p", "sees c p", "sees abcd a b c d e f", "puts c p", "puts abcd a b c d e f", "puts z z z"
        };
        for (String text : right) {
            Bench.dueStatement(text);
        }
        for (int digit = 0; digit <= 7; digit++) {
            Bench.dueStatement("rank t " + digit);
        }
        for (char letter = 'a'; letter <= 'z'; letter++) {
            Bench.dueStatement("type " + letter + letter);
        }
    }

    private static void noStatements() {
        String[] wrong = {
            "", " ", "class", "class c", "class c ", "class c  p", "class  c p", " class c p", "class c p ", "Class c p",
            "class C p", "class c P", "class c p1", "class abcde p", "class c abcde", "class c a b c d e f g",
            "classc p", "type", "type ", "type t ", "type abcde", "type t abcde", "type t a b c d e", "type t, a",
            "allow", "allow s", "allow s t", "allow s t c", "allow s t c ", "allow s t c a b c d e f g", "allow s t c p ",
            "never s t c", "never s t c a b c d e f g", "make s t c", "make s t c n ", "make s t c n m", "rank t",
            "rank t ", "rank t 8", "rank t 9", "rank t -1", "rank t 10", "rank t 1 ", "rank t a", "rank t /", "rank t1", "rank 1",
            "need c",
            "need c >", "need c > ", "need c p", "need c >p", "need c> p", "need c  p", "need c  > p",
            "need c >= p", "need c ! p", "need c > a b c d e f g",
            "need c ; p", "need c ? p", "sees c", "sees c a b c d e f g", "puts c", "puts c a b c d e f g", "put c p",
            "see c p", "self", "a b c d", "types t", "type t\u0021", "type `", "type {", "type t@", "type t[", "a"
        };
        for (String text : wrong) {
            Bench bench = new Bench(1);
            Bench.due("add of '" + text + "'", bench.add(text), Bench.BAD_ARGUMENT);
            Bench.due("statements after '" + text + "'", bench.desk.count(5), 0);
        }
    }

    private static void numbers() {
        Bench bench = new Bench(1);
        Bench.due("the first", bench.add("type a"), 0);
        Bench.due("the second", bench.add("type a"), 1);
        Bench.due("none", bench.add("typo a"), Bench.BAD_ARGUMENT);
        Bench.due("the third", bench.add("class c p"), 2);
        bench.desk.cut(1);
        Bench.due("the one behind a cut", bench.add("class c p"), 1);
        Bench.due("accept of what was left", bench.accept(), 1);
    }

    private static void full() {
        Bench bench = new Bench(1);
        bench.addAll("class f p", "type a");
        for (int k = 2; k < 40; k++) {
            bench.addAll("allow a a f p");
        }
        Bench.due("the 41st", bench.add("rank a 3"), Bench.BAD_STATE);
        Bench.due("statements then", bench.desk.count(5), 40);
        Bench.due("the 41st, that is none", bench.add("rank a 8"), Bench.BAD_ARGUMENT);
        Bench.due("its position", bench.desk.position(), 7);
        Bench.due("the 41st again", bench.add("rank a 3"), Bench.BAD_STATE);
        Bench.due("position after it", bench.desk.position(), PolicyDesk.NONE);
        Bench.due("statements at last", bench.desk.count(5), 40);
        Bench.due("accept of 40", bench.accept(), 1);
        Bench.due("what they allow", bench.may(0, 0, 0), 1);
        Bench.due("image", bench.desk.image(), 11);
        Bench.due("rank that was not taken", bench.desk.imageAt(3), 0);
        Bench.due("cut to 39", bench.desk.cut(39), true);
        Bench.due("the 40th again", bench.add("rank a 3"), 39);
        bench.accept();
        bench.desk.image();
        Bench.due("rank that was taken", bench.desk.imageAt(3), 3);
    }

    private static void theTextIsTaken() {
        Bench bench = new Bench(1);
        Bench.due("add of no statement", bench.add("type"), Bench.BAD_ARGUMENT);
        Bench.due("add of a statement behind it", bench.add("type a"), 0);
        Bench.due("add of nothing behind it", Bench.outcome(bench.desk::add), Bench.BAD_ARGUMENT);
        Bench.due("position of nothing", bench.desk.position(), 0);
        for (int k = 1; k < 40; k++) {
            bench.addAll("type a");
        }
        Bench.due("add to a full draft", bench.add("type a"), Bench.BAD_STATE);
        Bench.due("add of nothing to a full draft", Bench.outcome(bench.desk::add), Bench.BAD_ARGUMENT);
    }
}
