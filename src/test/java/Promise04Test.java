/** Promise 4: position. */
public final class Promise04Test {
    public static void main(String[] args) {
        keywords();
        names();
        marksAndLists();
        onlyMissing();
        latest();
        Bench.finish();
    }

    private static void keywords() {
        Bench.dueOfText("", 0);
        Bench.dueOfText(" type t", 0);
        Bench.dueOfText("Type t", 0);
        Bench.dueOfText("x", 0);
        Bench.dueOfText("clasp", 4);
        Bench.dueOfText("clas c p", 4);
        Bench.dueOfText("classc p", 5);
        Bench.dueOfText("typ t", 3);
        Bench.dueOfText("types t", 4);
        Bench.dueOfText("tape", 1);
        Bench.dueOfText("allo", 4);
        Bench.dueOfText("alow", 2);
        Bench.dueOfText("next", 2);
        Bench.dueOfText("nevel", 4);
        Bench.dueOfText("neee", 3);
        Bench.dueOfText("needs", 4);
        Bench.dueOfText("nn", 1);
        Bench.dueOfText("mare", 2);
        Bench.dueOfText("ranks a 1", 4);
        Bench.dueOfText("seen c p", 3);
        Bench.dueOfText("pots c p", 1);
        Bench.dueOfText("put c p", 3);
        Bench.dueOfText("puts\u007e", 4);
    }

    private static void names() {
        Bench.dueOfText("type  x", 5);
        Bench.dueOfText("type X", 5);
        Bench.dueOfText("type 1", 5);
        Bench.dueOfText("type aX", 6);
        Bench.dueOfText("type abcde", 9);
        Bench.dueOfText("type abcd efghi", 14);
        Bench.dueOfText("type a  b", 7);
        Bench.dueOfText("type a-b", 6);
        Bench.dueOfText("allow abcde t c p", 10);
        Bench.dueOfText("allow s, t c p", 7);
        Bench.dueOfText("allow s t c  p", 12);
        Bench.dueOfText("never s t C p", 10);
        Bench.dueOfText("make a b c d e", 12);
        Bench.dueOfText("make a b c d ", 12);
        Bench.dueOfText("make a b c 1", 11);
        Bench.dueOfText("type t{", 6);
        Bench.dueOfText("type t`", 6);
    }

    private static void marksAndLists() {
        Bench.dueOfText("rank x 8", 7);
        Bench.dueOfText("rank x /", 7);
        Bench.dueOfText("rank x 71", 8);
        Bench.dueOfText("rank x 1 ", 8);
        Bench.dueOfText("rank x  1", 7);
        Bench.dueOfText("rank 1", 5);
        Bench.dueOfText("rank x1", 6);
        Bench.dueOfText("rank x1 ", 6);
        Bench.dueOfText("need c ! p", 7);
        Bench.dueOfText("need c p", 7);
        Bench.dueOfText("need c  p", 7);
        Bench.dueOfText("need c> p", 6);
        Bench.dueOfText("need c >p", 8);
        Bench.dueOfText("need c >> p", 8);
        Bench.dueOfText("need c > > p", 9);
        Bench.dueOfText("class f a b c d e g h", 19);
        Bench.dueOfText("class f a b c d e g ", 19);
        Bench.dueOfText("class f a b c d e gggg!", 22);
        Bench.dueOfText("type t a b c d e", 14);
        Bench.dueOfText("type t a b c d ", 14);
        Bench.dueOfText("allow s t c a b c d e f g", 23);
        Bench.dueOfText("never s t c a b c d e f ", 23);
        Bench.dueOfText("need c > a b c d e f g", 20);
        Bench.dueOfText("sees c a b c d e f g", 18);
        Bench.dueOfText("puts c a b c d e f g", 18);
        Bench.dueOfText("class c p p 9", 12);
        Bench.dueOfText("class " + "a".repeat(66), 10);
    }

    private static void onlyMissing() {
        String[] cut = {
            "c", "clas", "class", "class ", "class c", "class c ", "class c p ", "t", "type", "type ", "type t ", "type t a ",
            "type t a b c ", "a", "allow", "allow s", "allow s ", "allow s t", "allow s t c", "allow s t c ", "allow s t c p ",
            "allow s t c a b c d e ", "n", "ne", "nev", "nee", "never s t c", "m", "make s t c", "make s t c ", "r", "rank t",
            "rank t ", "need c", "need c ", "need c >", "need c > ", "need c > p ", "s", "sees", "sees c", "sees c ", "p",
            "puts c", "puts c p q r s t "
        };
        for (String text : cut) {
            Bench.dueOfText(text, text.length());
        }
    }

    private static void latest() {
        Bench bench = new Bench(1);
        bench.add("type X");
        Bench.due("position", bench.desk.position(), 5);
        Bench.due("position, asked again", bench.desk.position(), 5);
        bench.write("type a");
        bench.desk.cut(0);
        Bench.outcome(bench.desk::accept);
        Bench.outcome(bench.desk::read);
        Bench.due("position after other calls", bench.desk.position(), 5);
        Bench.outcome(bench.desk::add);
        Bench.due("position after a statement", bench.desk.position(), PolicyDesk.NONE);
        bench.add("rank a");
        Bench.due("position after another error", bench.desk.position(), 6);
        for (int k = 1; k < 40; k++) {
            bench.addAll("type a");
        }
        bench.add("rank");
        bench.add("type a");
        Bench.due("position after IllegalStateException", bench.desk.position(), PolicyDesk.NONE);
    }
}
