/** Terms: the text, names, statements and errors; a method for each sentence that names a boundary. */
public final class EdgesOfTextTest {
    /** Of each kind the longest statement, and how long the shortest one is that it begins with. */
    private static final String[] LONGEST = {
        "class abcd bcde cdef defg efgh fghi ghij", "type abcd bcde cdef defg efgh",
        "allow abcd bcde cdef defg efgh fghi ghij hijk ijkl", "never abcd bcde cdef defg efgh fghi ghij hijk ijkl",
        "make abcd bcde cdef defg", "rank abcd 7", "need abcd > bcde cdef defg efgh fghi ghij",
        "sees abcd bcde cdef defg efgh fghi ghij", "puts abcd bcde cdef defg efgh fghi ghij"
    };
    private static final int[] SHORTEST = {12, 6, 22, 22, 21, 11, 13, 11, 11};

    public static void main(String[] args) {
        atMost72();
        codes();
        atFirstNone();
        takenWhenItAnswers();
        takenWhenItIsNoStatement();
        takenWhenThereAre40();
        lettersOfNames();
        whichLetters();
        blanks();
        howManyPermissions();
        howManyAttributes();
        namesOfMake();
        digits();
        marks();
        firstPosition();
        onlyMissing();
        sameIsNoError();
        tooMany();
        Bench.finish();
    }

    private static void atMost72() {
        Bench.sentence("THE TEXT has at most 72 characters");
        for (int length = 65; length <= 72; length++) {
            Bench bench = new Bench(1);
            Bench.due("write of " + length, bench.write("a".repeat(length)), true);
            if (length < 72) {
                Bench.due("write of what makes 73", bench.write("a".repeat(73 - length)), false);
            }
            Bench.due("write of what makes 72", bench.write("a".repeat(72 - length)), true);
            Bench.due("write of the 73rd", bench.write("a"), false);
        }
    }

    private static void codes() {
        Bench.sentence("with codes 32 .. 126");
        for (int code = 1; code <= 255; code++) {
            for (int place = 0; place < 64; place += 8) {
                boolean wanted = code >= 32 && code <= 126;
                Bench.due("write of code " + code + " at bit " + place, new PolicyDesk(1).write((long) code << place), wanted);
            }
        }
    }

    private static void atFirstNone() {
        Bench.sentence("at first none");
        Bench bench = new Bench(1);
        Bench.due("add of a new desk", Bench.outcome(bench.desk::add), Bench.BAD_ARGUMENT);
        Bench.due("position of a new desk", bench.desk.position(), 0);
        Bench.due("write of 72 to a new desk", new Bench(1).write("a".repeat(72)), true);
    }

    private static void takenWhenItAnswers() {
        Bench.sentence("a call that TAKES it uses it and makes it empty, whatever it answers");
        Bench bench = new Bench(1);
        Bench.due("add of a statement", bench.add("type a"), 0);
        dueEmpty(bench);
    }

    private static void takenWhenItIsNoStatement() {
        Bench.sentence("a call that TAKES it uses it and makes it empty, whatever it throws: IllegalArgumentException");
        Bench bench = new Bench(1);
        Bench.due("add of 72 letters", bench.add("a".repeat(72)), Bench.BAD_ARGUMENT);
        dueEmpty(bench);
        Bench.due("add of what could go on", bench.add("type"), Bench.BAD_ARGUMENT);
        Bench.due("add of what it would go on with", bench.add(" a"), Bench.BAD_ARGUMENT);
        Bench.due("position in that", bench.desk.position(), 0);
    }

    private static void takenWhenThereAre40() {
        Bench.sentence("a call that TAKES it uses it and makes it empty, whatever it throws: IllegalStateException");
        Bench bench = full();
        Bench.due("add of the 41st", bench.add("type a"), Bench.BAD_STATE);
        bench.desk.cut(39);
        dueEmpty(bench);
    }

    private static Bench full() {
        Bench bench = new Bench(1);
        for (int k = 0; k < 40; k++) {
            bench.addAll("type a");
        }
        return bench;
    }

    /** Asks by add for an empty text, and by write for the room of one. */
    private static void dueEmpty(Bench bench) {
        Bench.due("add without a text", Bench.outcome(bench.desk::add), Bench.BAD_ARGUMENT);
        Bench.due("position without a text", bench.desk.position(), 0);
        Bench.due("write of 72", bench.write("type a" + " ".repeat(66)), true);
        Bench.due("write of the 73rd", bench.write("a"), false);
        Bench.due("add of 72", Bench.outcome(bench.desk::add), Bench.BAD_ARGUMENT);
        Bench.due("add of a statement then", bench.add("type b"), bench.desk.count(5) - 1);
    }

    private static void lettersOfNames() {
        Bench.sentence("NAMES are 1 to 4 letters");
        String[] frames = {
            "class N p", "class c N", "class c p N", "type N", "type t N", "type t a b c N", "allow N t c p", "allow s N c p",
            "allow s t N p", "allow s t c N", "never N t c p", "never s N c p", "never s t N p", "never s t c N",
            "make N t c n", "make s N c n", "make s t N n", "make s t c N", "rank N 0", "need N > p", "need c = N",
            "need c < a b c d e N", "sees N p", "sees c N", "puts N p", "puts c N"
        };
        for (String frame : frames) {
            int at = frame.indexOf('N');
            for (int letters = 1; letters <= 4; letters++) {
                Bench.dueStatement(frame.replace("N", "z".repeat(letters)));
            }
            Bench.dueOfText(frame.replace("N", "zzzzz"), at + 4);
            Bench.dueOfText(frame.replace("N", ""), at);
        }
    }

    private static void whichLetters() {
        Bench.sentence("letters a .. z");
        for (char code = 33; code <= 126; code++) {
            if (code >= 'a' && code <= 'z') {
                Bench.dueStatement("type " + code);
                Bench.dueStatement("type abc" + code);
                Bench.dueStatement("class c p " + code);
            } else {
                Bench.dueOfText("type " + code, 5);
                Bench.dueOfText("type abc" + code, 8);
                Bench.dueOfText("class c p " + code, 10);
            }
        }
    }

    private static void blanks() {
        Bench.sentence("A STATEMENT is a row of words with one blank between two of them");
        for (String text : LONGEST) {
            Bench.dueStatement(text);
            Bench.dueOfText(" " + text, 0);
            Bench.dueOfText(text + " ", text.length());
            for (int k = text.indexOf(' '); k >= 0; k = text.indexOf(' ', k + 1)) {
                Bench.dueOfText(text.substring(0, k) + " " + text.substring(k), k + 1);
                Bench.dueOfText(text.substring(0, k) + text.substring(k + 1), k);
            }
        }
    }

    private static void howManyPermissions() {
        String[] begins = {"class c", "allow s t c", "allow s self c", "never s t c", "need c >", "sees c", "puts c"};
        for (String begin : begins) {
            Bench.sentence(begin + " p ..: permissions, 1 to 6");
            Bench.dueOfText(begin, begin.length());
            for (int many = 1; many <= 6; many++) {
                Bench.dueStatement(begin + " p".repeat(many));
            }
            for (int many = 7; begin.length() + 2 * many <= 72; many++) {
                Bench.dueOfText(begin + " p".repeat(many), begin.length() + 12);
            }
        }
    }

    private static void howManyAttributes() {
        Bench.sentence("type t a ..: a type with its attributes, 0 to 4");
        for (int many = 0; many <= 4; many++) {
            Bench.dueStatement("type t" + " a".repeat(many));
        }
        for (int many = 5; many <= 33; many++) {
            Bench.dueOfText("type t" + " a".repeat(many), 14);
        }
        Bench.dueOfText("type", 4);
    }

    private static void namesOfMake() {
        Bench.sentence("make s t c n");
        Bench.dueStatement("make s t c n");
        Bench.dueOfText("make s t c", 10);
        Bench.dueOfText("make s t c n m", 12);
        Bench.dueOfText("make s t c 1", 11);
    }

    private static void digits() {
        Bench.sentence("rank t d: a digit 0 .. 7");
        for (char code = 32; code <= 126; code++) {
            if (code >= '0' && code <= '7') {
                Bench.dueStatement("rank t " + code);
                Bench.dueOfText("rank t " + code + code, 8);
            } else {
                Bench.dueOfText("rank t " + code, 7);
            }
        }
        Bench.dueOfText("rank t ", 7);
        Bench.dueOfText("rank t", 6);
    }

    private static void marks() {
        Bench.sentence("o is one of > = <");
        for (char code = 32; code <= 126; code++) {
            if (code == '<' || code == '=' || code == '>') {
                Bench.dueStatement("need c " + code + " p");
                Bench.dueOfText("need c " + code + code + " p", 8);
            } else {
                Bench.dueOfText("need c " + code + " p", 7);
            }
        }
        Bench.dueOfText("need c ", 7);
        Bench.dueOfText("need c", 6);
    }

    /** A tilde stands in no statement, so the error is there wherever it is put. */
    private static void firstPosition() {
        Bench.sentence("an ERROR at the first position that no statement has that begins as the text does up to there");
        for (String text : LONGEST) {
            for (int k = 0; k < text.length(); k++) {
                Bench.dueOfText(text.substring(0, k) + "~" + text.substring(k + 1), k);
            }
            Bench.dueOfText(text + "~", text.length());
            Bench.dueOfText(text + "~".repeat(72 - text.length()), text.length());
            Bench.dueOfText("~".repeat(72), 0);
        }
        // words that begin as two kinds do, or as none does further on
        Bench.dueOfText("nexer", 2);
        Bench.dueOfText("neved", 4);
        Bench.dueOfText("neer", 3);
        Bench.dueOfText("rake", 2);
        Bench.dueOfText("pees c p", 1);
        Bench.dueOfText("suts c p", 1);
        Bench.dueOfText("cllow", 2);
        Bench.dueOfText("b", 0);
    }

    private static void onlyMissing() {
        Bench.sentence("the length, if only something is missing");
        for (int kind = 0; kind < LONGEST.length; kind++) {
            for (int length = 0; length < LONGEST[kind].length(); length++) {
                String text = LONGEST[kind].substring(0, length);
                if (length < SHORTEST[kind] || text.endsWith(" ")) {
                    Bench.dueOfText(text, length);
                } else {
                    Bench.dueStatement(text);
                }
            }
        }
    }

    private static void sameIsNoError() {
        Bench.sentence("That permissions or attributes are the same is no such error");
        String[] texts = {
            "class c p p", "class c p q r s t p", "class c c c c c c c", "type t a a", "type t a b c a", "type t t t t t",
            "allow s t c p p", "never s t c p p", "need c > p p", "sees c p p", "puts c p q p"
        };
        for (String text : texts) {
            Bench.dueStatement(text);
        }
    }

    private static void tooMany() {
        Bench.sentence("that they are too many is, at the blank behind the last that may be");
        for (String text : LONGEST) {
            Bench.dueOfText(text + " ", text.length());
            Bench.dueOfText(text + " a", text.length());
            Bench.dueOfText(text + " abcd", text.length());
            Bench.dueOfText(text + "  ", text.length());
            Bench.dueOfText(text + " ~", text.length());
        }
        Bench.dueOfText("class c p p p p p p p", 19);
        Bench.dueOfText("type t a a a a a", 14);
    }
}
