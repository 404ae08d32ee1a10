/** Promise 2: write. */
public final class Promise02Test {
    public static void main(String[] args) {
        zerosAreLeftOut();
        codes();
        room();
        falseChangesNothing();
        Bench.finish();
    }

    private static void zerosAreLeftOut() {
        PolicyDesk desk = new PolicyDesk(1);
        Bench.due("write of zeros", desk.write(0), true);
        // 't', 0, 'y', 0, 0, 'p', 'e', 0 and 0, ' ', 'x' with zeros behind
        Bench.due("write between zeros", desk.write(0x7400790000706500L), true);
        Bench.due("write before zeros", desk.write(0x0020780000000000L), true);
        Bench.due("add of 'type x'", Bench.outcome(desk::add), 0);
    }

    private static void codes() {
        for (int code = 0; code <= 255; code++) {
            boolean taken = code == 0 || code >= 32 && code <= 126;
            for (int place = 0; place < 8; place++) {
                PolicyDesk desk = new PolicyDesk(1);
                long others = 0x6161616161616161L & ~(255L << 8 * place);
                Bench.due("write with code " + code + " at " + place, desk.write(others | (long) code << 8 * place), taken);
            }
        }
        Bench.due("write of -1", new PolicyDesk(1).write(-1), false);
        Bench.due("write of the least long", new PolicyDesk(1).write(Long.MIN_VALUE), false);
    }

    private static void room() {
        Bench bench = new Bench(1);
        Bench.due("write of 72", bench.write("a".repeat(72)), true);
        Bench.due("write of one more", bench.desk.write('a'), false);
        Bench.due("write of zeros into a full text", bench.desk.write(0), true);
        Bench.due("add of 72", Bench.outcome(bench.desk::add), Bench.BAD_ARGUMENT);
        Bench.due("write after the text was taken", bench.write("a".repeat(72)), true);

        Bench other = new Bench(1);
        Bench.due("write of 65", other.write("a".repeat(65)), true);
        Bench.due("write of 8 with room for 7", other.desk.write(Bench.packed("aaaaaaaa")), false);
        Bench.due("write of 7 with room for 7", other.desk.write(0x6161610061616161L), true);
        Bench.due("write of 1 with no room", other.desk.write(0x6100000000000000L), false);
    }

    private static void falseChangesNothing() {
        Bench bench = new Bench(1);
        Bench.due("write of 'type a'", bench.write("type a"), true);
        Bench.due("write of 'b' and a line's end", bench.desk.write(0x620aL), false);
        Bench.due("write of a line's end and 'b'", bench.desk.write(0x0a62L), false);
        Bench.due("write of 127", bench.desk.write(0x627fL), false);
        Bench.due("add of 'type a'", Bench.outcome(bench.desk::add), 0);
        bench.addAll("class f p", "rank a 1");
        Bench.due("accept", bench.accept(), 1);

        Bench full = new Bench(1);
        full.write("type a" + " ".repeat(62));
        Bench.due("write of more than there is room for", full.desk.write(Bench.packed("bbbbb")), false);
        Bench.due("write of what there is room for", full.desk.write(Bench.packed("bbbb")), true);
        Bench.due("write of anything more", full.desk.write('b'), false);
    }
}
